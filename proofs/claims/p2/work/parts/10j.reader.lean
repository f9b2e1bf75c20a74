-- pure: the reader, token by token
/-- where a text stands -/
def J_rs (s n us it kk sy vc : Int) (a : Int → Int) : Prop := (s ≤ 4 → a n = us) ∧ (5 ≤ s → a n + it = us ∧ n < 1500 ∧ it ≤ 300 ∧ (1 ≤ it → a (n + 1) = us)) ∧ (s = 1 → n < 1500) ∧ (s = 2 → it ≤ sy) ∧ (s = 3 → it ≤ vc) ∧ (s = 5 → kk = 0 → it ≤ 2) ∧ (6 ≤ s → 1 ≤ it ∧ kk = 3)
theorem c_JF {n us hc : Int} {kd a tx fl rk hyp af : Int → Int} (hJ : ∀ i : Int, 0 ≤ i → i < n → J_t i us kd a tx fl rk) (sc : J_sc n hc kd a tx fl hyp af) (h0 : ∀ m, 0 ≤ hyp m) (ub : us ≤ 30000) : J_hfa hc kd a hyp := fun m m0 m1 k => by
  obtain ⟨⟨a1, a2, a3, a4⟩, _, _⟩ := hJ _ (h0 m) (sc.1 m m0 m1).1
  have := a4 k
  omega
theorem c_FP {sy n us : Int} {ff kd a tx fl rk : Int → Int} (hJ : ∀ i : Int, 0 ≤ i → i < n → J_t i us kd a tx fl rk) (h : J_ff sy n ff kd a tx) (ub : us ≤ 30000) : ∀ s : Int, 0 ≤ s → s < sy → 0 ≤ ff s → a (ff s) < 30000 := fun s s0 s1 s2 => by
  obtain ⟨b1, b2, b3⟩ := h s s0 s1 s2
  obtain ⟨⟨a1, a2, a3, a4⟩, _, _⟩ := hJ _ s2 b1
  omega
/-- statement n is kept -/
theorem c_J_new {σ τ : S0} {n : Int} (h : c_Jn n τ) (hn : τ.1 7 = n + 1) (h1 : J_t n (τ.1 6) (τ.2.1 13) (τ.2.1 14) (τ.2.1 15) (τ.2.1 16) (τ.2.1 10)) (h2 : 2 ≤ τ.2.1 13 n → J_f n (τ.1 13) (τ.1 14) (τ.2.1 13) (τ.2.1 14) (τ.2.1 15) (τ.2.1 16) (τ.2.1 27) (τ.2.1 28) (τ.2.1 29) (τ.2.1 30) (τ.2.1 31) (τ.2.1 32)) (h3 : τ.2.1 13 n = 3 → J_r n (τ.1 15) (τ.2.1 13) (τ.2.1 28) (τ.2.1 33) (τ.2.1 34) (τ.2.1 35) (τ.2.1 36) (τ.2.1 37)) : c_J τ := by
  have := J_all_add h h1 h2 h3
  rw [← hn] at this; exact this
theorem c_S_k {σ τ : S0} (h : c_S σ) (hJ : c_J σ) (hT : c_T σ) (g : c_ag σ τ) (n : τ.1 7 = σ.1 7) (hc : τ.1 9 = σ.1 9) (hy : τ.2.1 22 = σ.2.1 22) (af : τ.2.1 19 = σ.2.1 19) : J_sc (σ.1 7) (σ.1 9) (τ.2.1 13) (τ.2.1 14) (τ.2.1 15) (τ.2.1 16) (τ.2.1 22) (τ.2.1 19) := by
  rw [hy, af]
  exact J_sc_x h (J_te_g g) (c_Jt hJ) (fun m => (hT.2 22 m).1) (Int.le_refl _)
theorem c_S_n {σ τ : S0} (h : c_S σ) (hJ : c_J σ) (hT : c_T σ) (g : c_ag σ τ) (hy : τ.2.1 22 = σ.2.1 22) (af : τ.2.1 19 = σ.2.1 19) : J_sc (σ.1 7) (σ.1 9) (τ.2.1 13) (τ.2.1 14) (τ.2.1 15) (τ.2.1 16) (τ.2.1 22) (τ.2.1 19) := by
  rw [hy, af]
  exact J_sc_x h (J_te_g g) (c_Jt hJ) (fun m => (hT.2 22 m).1) (Int.le_refl _)
/-- a frame is that of the same statement, whatever kind that gets -/
theorem J_f_k {n hu pr k : Int} {kd a tx fl fa fs hy pa ps pq : Int → Int} (h : J_f n hu pr kd a tx fl fa fs hy pa ps pq) : J_f n hu pr (st kd n k) a tx fl fa fs hy pa ps pq := by
  obtain ⟨h1, h2, h3, h4⟩ := h
  have vf : ∀ v, J_vf n v kd a tx fa fs hy → J_vf n v (st kd n k) a tx fa fs hy := fun v ⟨w, w0, w1, w2, w3⟩ => ⟨w, w0, w1, by rw [st_n _ _ (show hy (fa n + w) ≠ n from by have := (h2 w w0 w1).1; omega)]; exact w2, w3⟩
  exact ⟨h1, fun w w0 w1 => by have q := h2 w w0 w1; rw [st_n _ _ (show hy (fa n + w) ≠ n from by omega)]; exact q, h3, fun q q0 q1 => ⟨vf _ (h4 q q0 q1).1, vf _ (h4 q q0 q1).2⟩⟩
theorem J_r_k {n ru k : Int} {kd fs ra rc rs ca ch : Int → Int} (h : J_r n ru kd fs ra rc rs ca ch) : J_r n ru (st kd n k) fs ra rc rs ca ch := ⟨h.1, fun r a b => by
  obtain ⟨h1, h2, h3⟩ := h.2 r a b
  rw [st_n _ _ (show rs r ≠ n from by omega)]; exact ⟨h1, h2, h3⟩⟩
set_option maxHeartbeats 4000000 in
theorem K_X7_word {n1 : Int} {n2 : Int} {σ : S0} (hT : c_T σ) (p1 : J_ht (σ.1 3) (σ.2.1 2) (σ.2.1 3) (σ.2.1 5) (σ.2.1 6)) (p2 : J_mn (σ.1 3) (σ.1 5) ((σ.1 7) + 1) (σ.2.1 4)) (p3 : J_rks (σ.1 5) (σ.1 4) (σ.2.1 10) (σ.2.1 11)) (p4 : J_vs (σ.1 8) (σ.1 5) (σ.2.1 20)) (p5 : J_vs (σ.1 6) (σ.1 5) (σ.2.1 15)) (p6 : J_va (σ.1 8) 1000 (σ.2.1 18) (σ.2.1 20)) (p7 : J_mk (σ.1 11) (σ.1 8) (σ.1 9) (σ.1 10) (σ.2.1 25)) (p8 : J_sc (σ.1 7) (σ.1 9) (σ.2.1 13) (σ.2.1 14) (σ.2.1 15) (σ.2.1 16) (σ.2.1 22) (σ.2.1 19)) (p9 : J_ff (σ.1 5) (σ.1 7) (σ.2.1 9) (σ.2.1 13) (σ.2.1 14) (σ.2.1 15)) (p10 : ∀ s : Int, σ.2.1 26 s ≤ (σ.1 12)) (p11 : J_all (σ.1 7) (σ.1 6) (σ.1 13) (σ.1 14) (σ.1 15) (σ.2.1 13) (σ.2.1 14) (σ.2.1 15) (σ.2.1 16) (σ.2.1 10) (σ.2.1 27) (σ.2.1 28) (σ.2.1 29) (σ.2.1 30) (σ.2.1 31) (σ.2.1 32) (σ.2.1 33) (σ.2.1 34) (σ.2.1 35) (σ.2.1 36) (σ.2.1 37)) (p12 : J_bp (σ.2.1 44) (σ.2.1 45)) (p13 : J_nl (σ.1 3) (σ.2.1 2) (σ.2.1 3) (σ.2.1 4)) (p14 : J_rs (σ.1 35) (σ.1 7) (σ.1 6) (σ.1 36) (σ.1 37) (σ.1 5) (σ.1 8) (σ.2.1 14)) (p15 : 5 ≤ (σ.1 35) → 1 ≤ (σ.1 36) → 0 ≤ σ.2.1 10 (σ.2.1 15 (σ.2.1 14 (σ.1 7)))) (p16 : (σ.1 35) = 4 → j_in (σ.1 36) 1000 (σ.2.1 54)) (p17 : 5 ≤ (σ.1 35) → J_ip (σ.1 7) (σ.1 6) (σ.1 37) (σ.2.1 14) (σ.2.1 15) (σ.2.1 16) (σ.2.1 19)) (p18 : ((σ.1 35) ≤ 5 → (σ.1 13) ≤ 60 * (σ.1 7)) ∧ (σ.1 13) ≤ 60 * (σ.1 7) + 60) (p19 : 6 ≤ (σ.1 35) → (σ.1 24) = (σ.1 7) ∧ J_f (σ.1 7) (σ.1 13) (σ.1 14) (σ.2.1 13) (σ.2.1 14) (σ.2.1 15) (σ.2.1 16) (σ.2.1 27) (σ.2.1 28) (σ.2.1 29) (σ.2.1 30) (σ.2.1 31) (σ.2.1 32)) (p20 : 6 ≤ (σ.1 35) → J_sp (σ.1 24) (σ.1 21) (σ.1 23) (σ.1 22) (σ.2.1 49) (σ.2.1 51) ∧ ((σ.1 16) + (σ.1 21) ≤ 20000) ∧ (¬ (σ.1 27) = 0 → 1 ≤ (σ.1 21) ∧ 0 ≤ σ.2.1 49 ((σ.1 21) - 1) ∧ σ.2.1 49 ((σ.1 21) - 1) < 65536) ∧ ((σ.1 26) ≤ 1000000) ∧ ((σ.1 25) ≤ 2 → (σ.1 27) = 0)) (p21 : (σ.1 15) ≤ (σ.1 16) ∧ σ.2.1 36 (σ.1 15) ≤ (σ.1 16)) (p22 : (σ.1 9) ≤ (σ.1 7)) (p23 : 0 ≤ n1) (p24 : 0 ≤ n2) (p25 : n1 + n2 ≤ 60000) (p26 : ¬ σ.1 66 = 0) (p27 : (σ.1 38) < (σ.1 5)) : W_X7_word n1 n2 σ (fun (x : Int) (τ : S0) => (c_T τ) ∧ (0 ≤ x ∧ x ≤ 19) ∧ (J_ht (τ.1 3) (τ.2.1 2) (τ.2.1 3) (τ.2.1 5) (τ.2.1 6)) ∧ (J_mn (τ.1 3) (τ.1 5) ((τ.1 7) + 1) (τ.2.1 4)) ∧ (J_rks (τ.1 5) (τ.1 4) (τ.2.1 10) (τ.2.1 11)) ∧ (J_vs (τ.1 8) (τ.1 5) (τ.2.1 20)) ∧ (J_vs (τ.1 6) (τ.1 5) (τ.2.1 15)) ∧ (J_va (τ.1 8) 1000 (τ.2.1 18) (τ.2.1 20)) ∧ (J_mk (τ.1 11) (τ.1 8) (τ.1 9) (τ.1 10) (τ.2.1 25)) ∧ (J_sc (τ.1 7) (τ.1 9) (τ.2.1 13) (τ.2.1 14) (τ.2.1 15) (τ.2.1 16) (τ.2.1 22) (τ.2.1 19)) ∧ (J_ff (τ.1 5) (τ.1 7) (τ.2.1 9) (τ.2.1 13) (τ.2.1 14) (τ.2.1 15)) ∧ (∀ s : Int, τ.2.1 26 s ≤ (τ.1 12)) ∧ (J_all (τ.1 7) (τ.1 6) (τ.1 13) (τ.1 14) (τ.1 15) (τ.2.1 13) (τ.2.1 14) (τ.2.1 15) (τ.2.1 16) (τ.2.1 10) (τ.2.1 27) (τ.2.1 28) (τ.2.1 29) (τ.2.1 30) (τ.2.1 31) (τ.2.1 32) (τ.2.1 33) (τ.2.1 34) (τ.2.1 35) (τ.2.1 36) (τ.2.1 37)) ∧ (J_bp (τ.2.1 44) (τ.2.1 45)) ∧ (J_nl (τ.1 3) (τ.2.1 2) (τ.2.1 3) (τ.2.1 4)) ∧ (x = 0 → J_rs (τ.1 35) (τ.1 7) (τ.1 6) (τ.1 36) (τ.1 37) (τ.1 5) (τ.1 8) (τ.2.1 14)) ∧ (x = 0 → 5 ≤ (τ.1 35) → 1 ≤ (τ.1 36) → 0 ≤ τ.2.1 10 (τ.2.1 15 (τ.2.1 14 (τ.1 7)))) ∧ (x = 0 → (τ.1 35) = 4 → j_in (τ.1 36) 1000 (τ.2.1 54)) ∧ (x = 0 → 5 ≤ (τ.1 35) → J_ip (τ.1 7) (τ.1 6) (τ.1 37) (τ.2.1 14) (τ.2.1 15) (τ.2.1 16) (τ.2.1 19)) ∧ (x = 0 → ((τ.1 35) ≤ 5 → (τ.1 13) ≤ 60 * (τ.1 7)) ∧ (τ.1 13) ≤ 60 * (τ.1 7) + 60) ∧ (x = 0 → 6 ≤ (τ.1 35) → (τ.1 24) = (τ.1 7) ∧ J_f (τ.1 7) (τ.1 13) (τ.1 14) (τ.2.1 13) (τ.2.1 14) (τ.2.1 15) (τ.2.1 16) (τ.2.1 27) (τ.2.1 28) (τ.2.1 29) (τ.2.1 30) (τ.2.1 31) (τ.2.1 32)) ∧ (x = 0 → 6 ≤ (τ.1 35) → J_sp (τ.1 24) (τ.1 21) (τ.1 23) (τ.1 22) (τ.2.1 49) (τ.2.1 51) ∧ ((τ.1 16) + (τ.1 21) ≤ 20000) ∧ (¬ (τ.1 27) = 0 → 1 ≤ (τ.1 21) ∧ 0 ≤ τ.2.1 49 ((τ.1 21) - 1) ∧ τ.2.1 49 ((τ.1 21) - 1) < 65536) ∧ ((τ.1 26) ≤ 1000000) ∧ ((τ.1 25) ≤ 2 → (τ.1 27) = 0)) ∧ (x = 0 → (τ.1 15) ≤ (τ.1 16) ∧ τ.2.1 36 (τ.1 15) ≤ (τ.1 16)) ∧ (x = 0 → (τ.1 9) ≤ (τ.1 7)) ∧ (j_rr ((σ.1 5)) (σ.2.1 10) (τ.2.1 10)) ∧ (j_eq (σ.2.1 36 (σ.1 15)) (σ.2.1 37) (τ.2.1 37)) ∧ ((τ.1 12) ≤ (σ.1 12) + 1) ∧ (c_Y σ τ) ∧ (c_ag σ τ)) := by
  have A2 : ∀ j, 0 ≤ σ.2.1 2 j ∧ σ.2.1 2 j ≤ 65535 := fun j => hT.2 2 j
  have A3 : ∀ j, 0 ≤ σ.2.1 3 j ∧ σ.2.1 3 j ≤ 30000 := fun j => hT.2 3 j
  have A4 : ∀ j, (-1000) ≤ σ.2.1 4 j ∧ σ.2.1 4 j ≤ 1499 := fun j => hT.2 4 j
  have A5 : ∀ j, 0 ≤ σ.2.1 5 j ∧ σ.2.1 5 j ≤ 2500 := fun j => hT.2 5 j
  have A6 : ∀ j, 0 ≤ σ.2.1 6 j ∧ σ.2.1 6 j ≤ 2500 := fun j => hT.2 6 j
  have A8 : ∀ j, 0 ≤ σ.2.1 8 j ∧ σ.2.1 8 j ≤ 1 := fun j => hT.2 8 j
  have A9 : ∀ j, (-1) ≤ σ.2.1 9 j ∧ σ.2.1 9 j ≤ 1499 := fun j => hT.2 9 j
  have A10 : ∀ j, (-1) ≤ σ.2.1 10 j ∧ σ.2.1 10 j ≤ 99 := fun j => hT.2 10 j
  have A11 : ∀ j, 0 ≤ σ.2.1 11 j ∧ σ.2.1 11 j ≤ 999 := fun j => hT.2 11 j
  have A13 : ∀ j, 0 ≤ σ.2.1 13 j ∧ σ.2.1 13 j ≤ 4 := fun j => hT.2 13 j
  have A14 : ∀ j, 0 ≤ σ.2.1 14 j ∧ σ.2.1 14 j ≤ 30000 := fun j => hT.2 14 j
  have A15 : ∀ j, 0 ≤ σ.2.1 15 j ∧ σ.2.1 15 j ≤ 999 := fun j => hT.2 15 j
  have A16 : ∀ j, (-1) ≤ σ.2.1 16 j ∧ σ.2.1 16 j ≤ 1499 := fun j => hT.2 16 j
  have A18 : ∀ j, 0 ≤ σ.2.1 18 j ∧ σ.2.1 18 j ≤ 1 := fun j => hT.2 18 j
  have A19 : ∀ j, (-1) ≤ σ.2.1 19 j ∧ σ.2.1 19 j ≤ 1499 := fun j => hT.2 19 j
  have A20 : ∀ j, 0 ≤ σ.2.1 20 j ∧ σ.2.1 20 j ≤ 999 := fun j => hT.2 20 j
  have A22 : ∀ j, 0 ≤ σ.2.1 22 j ∧ σ.2.1 22 j ≤ 1499 := fun j => hT.2 22 j
  have A23 : ∀ j, 0 ≤ σ.2.1 23 j ∧ σ.2.1 23 j ≤ 999 := fun j => hT.2 23 j
  have A24 : ∀ j, 0 ≤ σ.2.1 24 j ∧ σ.2.1 24 j ≤ 999 := fun j => hT.2 24 j
  have A26 : ∀ j, (-2147483648) ≤ σ.2.1 26 j ∧ σ.2.1 26 j ≤ 2147483647 := fun j => hT.2 26 j
  have A27 : ∀ j, 0 ≤ σ.2.1 27 j ∧ σ.2.1 27 j ≤ 90000 := fun j => hT.2 27 j
  have A28 : ∀ j, 0 ≤ σ.2.1 28 j ∧ σ.2.1 28 j ≤ 60 := fun j => hT.2 28 j
  have A29 : ∀ j, 0 ≤ σ.2.1 29 j ∧ σ.2.1 29 j ≤ 1499 := fun j => hT.2 29 j
  have A30 : ∀ j, 0 ≤ σ.2.1 30 j ∧ σ.2.1 30 j ≤ 20000 := fun j => hT.2 30 j
  have A31 : ∀ j, 0 ≤ σ.2.1 31 j ∧ σ.2.1 31 j ≤ 20000 := fun j => hT.2 31 j
  have A32 : ∀ j, 0 ≤ σ.2.1 32 j ∧ σ.2.1 32 j ≤ 999999 := fun j => hT.2 32 j
  have A33 : ∀ j, 0 ≤ σ.2.1 33 j ∧ σ.2.1 33 j ≤ 20000 := fun j => hT.2 33 j
  have A34 : ∀ j, 0 ≤ σ.2.1 34 j ∧ σ.2.1 34 j ≤ 20000 := fun j => hT.2 34 j
  have A35 : ∀ j, 0 ≤ σ.2.1 35 j ∧ σ.2.1 35 j ≤ 1499 := fun j => hT.2 35 j
  have A36 : ∀ j, 0 ≤ σ.2.1 36 j ∧ σ.2.1 36 j ≤ 20000 := fun j => hT.2 36 j
  have A37 : ∀ j, 0 ≤ σ.2.1 37 j ∧ σ.2.1 37 j ≤ 19999 := fun j => hT.2 37 j
  have A44 : ∀ j, 0 ≤ σ.2.1 44 j ∧ σ.2.1 44 j ≤ 42000 := fun j => hT.2 44 j
  have A45 : ∀ j, 0 ≤ σ.2.1 45 j ∧ σ.2.1 45 j ≤ 1000 := fun j => hT.2 45 j
  have A49 : ∀ j, (-300) ≤ σ.2.1 49 j ∧ σ.2.1 49 j ≤ 67035 := fun j => hT.2 49 j
  have A51 : ∀ j, 0 ≤ σ.2.1 51 j ∧ σ.2.1 51 j ≤ 1499 := fun j => hT.2 51 j
  have A54 : ∀ j, 0 ≤ σ.2.1 54 j ∧ σ.2.1 54 j ≤ 999 := fun j => hT.2 54 j
  have v3 : 0 ≤ σ.1 3 ∧ σ.1 3 ≤ 2500 := hT.1 3
  have v4 : 0 ≤ σ.1 4 ∧ σ.1 4 ≤ 100 := hT.1 4
  have v5 : 0 ≤ σ.1 5 ∧ σ.1 5 ≤ 1000 := hT.1 5
  have v6 : 0 ≤ σ.1 6 ∧ σ.1 6 ≤ 30000 := hT.1 6
  have v7 : 0 ≤ σ.1 7 ∧ σ.1 7 ≤ 1500 := hT.1 7
  have v8 : 0 ≤ σ.1 8 ∧ σ.1 8 ≤ 1000 := hT.1 8
  have v9 : 0 ≤ σ.1 9 ∧ σ.1 9 ≤ 1500 := hT.1 9
  have v10 : 0 ≤ σ.1 10 ∧ σ.1 10 ≤ 1000 := hT.1 10
  have v11 : 0 ≤ σ.1 11 ∧ σ.1 11 ≤ 50 := hT.1 11
  have v12 : (-2147483648) ≤ σ.1 12 ∧ σ.1 12 ≤ 2147483647 := hT.1 12
  have v13 : 0 ≤ σ.1 13 ∧ σ.1 13 ≤ 90000 := hT.1 13
  have v14 : 0 ≤ σ.1 14 ∧ σ.1 14 ≤ 20000 := hT.1 14
  have v15 : 0 ≤ σ.1 15 ∧ σ.1 15 ≤ 20000 := hT.1 15
  have v16 : 0 ≤ σ.1 16 ∧ σ.1 16 ≤ 20000 := hT.1 16
  have v21 : 0 ≤ σ.1 21 ∧ σ.1 21 ≤ 20000 := hT.1 21
  have v22 : 0 ≤ σ.1 22 ∧ σ.1 22 ≤ 300 := hT.1 22
  have v23 : 0 ≤ σ.1 23 ∧ σ.1 23 ≤ 300 := hT.1 23
  have v24 : 0 ≤ σ.1 24 ∧ σ.1 24 ≤ 1499 := hT.1 24
  have v25 : 0 ≤ σ.1 25 ∧ σ.1 25 ≤ 3 := hT.1 25
  have v26 : 0 ≤ σ.1 26 ∧ σ.1 26 ≤ 5000010 := hT.1 26
  have v27 : 0 ≤ σ.1 27 ∧ σ.1 27 ≤ 1 := hT.1 27
  have v35 : 0 ≤ σ.1 35 ∧ σ.1 35 ≤ 7 := hT.1 35
  have v36 : 0 ≤ σ.1 36 ∧ σ.1 36 ≤ 1001 := hT.1 36
  have v37 : 0 ≤ σ.1 37 ∧ σ.1 37 ≤ 4 := hT.1 37
  have v38 : (-1) ≤ σ.1 38 ∧ σ.1 38 ≤ 999 := hT.1 38
  have v66 : 0 ≤ σ.1 66 ∧ σ.1 66 ≤ 1 := hT.1 66
  have a14_7 : 0 ≤ σ.2.1 14 (σ.1 7) ∧ σ.2.1 14 (σ.1 7) ≤ 30000 := hT.2 14 _
  have a36_15 : 0 ≤ σ.2.1 36 (σ.1 15) ∧ σ.2.1 36 (σ.1 15) ≤ 20000 := hT.2 36 _
  have W7 : σ.1 7 = σ.1 7 := rfl
  have W9 : σ.1 9 = σ.1 9 := rfl
  have W11 : σ.1 11 = σ.1 11 := rfl
  have W12 : σ.1 12 = σ.1 12 := rfl
  have W13 : σ.1 13 = σ.1 13 := rfl
  have W14 : σ.1 14 = σ.1 14 := rfl
  have W15 : σ.1 15 = σ.1 15 := rfl
  have W16 : σ.1 16 = σ.1 16 := rfl
  have W21 : σ.1 21 = σ.1 21 := rfl
  have W22 : σ.1 22 = σ.1 22 := rfl
  have W23 : σ.1 23 = σ.1 23 := rfl
  have W24 : σ.1 24 = σ.1 24 := rfl
  have W25 : σ.1 25 = σ.1 25 := rfl
  have W26 : σ.1 26 = σ.1 26 := rfl
  have W27 : σ.1 27 = σ.1 27 := rfl
  have W37 : σ.1 37 = σ.1 37 := rfl
  have W38 : σ.1 38 = σ.1 38 := rfl
  have W66 : σ.1 66 = σ.1 66 := rfl
  have G13 : σ.2.1 13 = σ.2.1 13 := rfl
  have G19 : σ.2.1 19 = σ.2.1 19 := rfl
  have G22 : σ.2.1 22 = σ.2.1 22 := rfl
  have G25 : σ.2.1 25 = σ.2.1 25 := rfl
  have G26 : σ.2.1 26 = σ.2.1 26 := rfl
  have G27 : σ.2.1 27 = σ.2.1 27 := rfl
  have G28 : σ.2.1 28 = σ.2.1 28 := rfl
  have G29 : σ.2.1 29 = σ.2.1 29 := rfl
  have G30 : σ.2.1 30 = σ.2.1 30 := rfl
  have G31 : σ.2.1 31 = σ.2.1 31 := rfl
  have G32 : σ.2.1 32 = σ.2.1 32 := rfl
  have G33 : σ.2.1 33 = σ.2.1 33 := rfl
  have G34 : σ.2.1 34 = σ.2.1 34 := rfl
  have G35 : σ.2.1 35 = σ.2.1 35 := rfl
  have G36 : σ.2.1 36 = σ.2.1 36 := rfl
  have G37 : σ.2.1 37 = σ.2.1 37 := rfl
  have G44 : σ.2.1 44 = σ.2.1 44 := rfl
  have G45 : σ.2.1 45 = σ.2.1 45 := rfl
  have G49 : σ.2.1 49 = σ.2.1 49 := rfl
  have G51 : σ.2.1 51 = σ.2.1 51 := rfl
  have ag : c_ag σ σ := ag_0 σ
  have hT0 := hT
  have t015 : ∀ p : Int, 0 ≤ σ.2.1 15 p ∧ σ.2.1 15 p < 1000 := fun p => ⟨(A15 p).1, by have := (A15 p).2; omega⟩
  have CH := j_eq0 (σ.2.1 36 (σ.1 15)) (σ.2.1 37)
  have jt := c_Jt p11
  have JFx := c_JF jt p8 (fun m => (hT.2 22 m).1) (by omega)
  have FPx := c_FP jt p9 (by omega)
  have uc := p15
  have dj := p16
  have ipx := p17
  have hux := p18
  have frx := p19
  have spx := p20
  have sux := p21
  have hcx := p22
  have rsx := p14
  unfold J_rs at rsx
  have HT : J_ht (σ.1 3) (σ.2.1 2) (σ.2.1 3) (σ.2.1 5) (σ.2.1 6) := p1
  have NL : J_nl (σ.1 3) (σ.2.1 2) (σ.2.1 3) (σ.2.1 4) := p13
  have MN : J_mn (σ.1 3) (σ.1 5) ((σ.1 7) + 1) (σ.2.1 4) := p2
  have VA : J_va (σ.1 8) 1000 (σ.2.1 18) (σ.2.1 20) := p6
  have SC : J_sc (σ.1 7) (σ.1 9) (σ.2.1 13) (σ.2.1 14) (σ.2.1 15) (σ.2.1 16) (σ.2.1 22) (σ.2.1 19) := p8
  have MK : J_mk (σ.1 11) (σ.1 8) (σ.1 9) (σ.1 10) (σ.2.1 25) := p7
  have FF : J_ff (σ.1 5) (σ.1 7) (σ.2.1 9) (σ.2.1 13) (σ.2.1 14) (σ.2.1 15) := p9
  have MT : ∀ s : Int, σ.2.1 26 s ≤ (σ.1 12) := p10
  have VS : J_vs (σ.1 8) (σ.1 5) (σ.2.1 20) := p4
  have TX : J_vs (σ.1 6) (σ.1 5) (σ.2.1 15) := p5
  have RKS : J_rks (σ.1 5) (σ.1 4) (σ.2.1 10) (σ.2.1 11) := p3
  have CJ : J_all (σ.1 7) (σ.1 6) (σ.1 13) (σ.1 14) (σ.1 15) (σ.2.1 13) (σ.2.1 14) (σ.2.1 15) (σ.2.1 16) (σ.2.1 10) (σ.2.1 27) (σ.2.1 28) (σ.2.1 29) (σ.2.1 30) (σ.2.1 31) (σ.2.1 32) (σ.2.1 33) (σ.2.1 34) (σ.2.1 35) (σ.2.1 36) (σ.2.1 37) := p11
  have BP : J_bp (σ.2.1 44) (σ.2.1 45) := p12
  have RS : J_rs (σ.1 35) (σ.1 7) (σ.1 6) (σ.1 36) (σ.1 37) (σ.1 5) (σ.1 8) (σ.2.1 14) := p14
  have BP_0 := BP
  have CH_0 := CH
  have CJ_0 := CJ
  have FF_0 := FF
  have HT_0 := HT
  have MK_0 := MK
  have MN_0 := MN
  have MT_0 := MT
  have NL_0 := NL
  have RKS_0 := RKS
  have RS_0 := RS
  have SC_0 := SC
  have TX_0 := TX
  have VA_0 := VA
  have VS_0 := VS
  unfold W_X7_word
  refine ⟨fun c1 => ?_, fun c1 => ?_, fun c1 => ?_, fun c1 => ?_, fun c1 => ?_, fun c1 => ?_, fun c1 => ?_⟩
  ·
    exact ⟨hT, (show 0 ≤ 4 ∧ 4 ≤ 19 from by (first | assumption | omega | (simp only [st_s] <;> omega) | fail)), (show J_ht (σ.1 3) (σ.2.1 2) (σ.2.1 3) (σ.2.1 5) (σ.2.1 6) from HT), (show J_mn (σ.1 3) (σ.1 5) ((σ.1 7) + 1) (σ.2.1 4) from MN), (show J_rks (σ.1 5) (σ.1 4) (σ.2.1 10) (σ.2.1 11) from RKS), (show J_vs (σ.1 8) (σ.1 5) (σ.2.1 20) from VS), (show J_vs (σ.1 6) (σ.1 5) (σ.2.1 15) from TX), (show J_va (σ.1 8) 1000 (σ.2.1 18) (σ.2.1 20) from VA), (show J_mk (σ.1 11) (σ.1 8) (σ.1 9) (σ.1 10) (σ.2.1 25) from MK), (show J_sc (σ.1 7) (σ.1 9) (σ.2.1 13) (σ.2.1 14) (σ.2.1 15) (σ.2.1 16) (σ.2.1 22) (σ.2.1 19) from SC), (show J_ff (σ.1 5) (σ.1 7) (σ.2.1 9) (σ.2.1 13) (σ.2.1 14) (σ.2.1 15) from FF), (show ∀ s : Int, σ.2.1 26 s ≤ (σ.1 12) from MT), (show J_all (σ.1 7) (σ.1 6) (σ.1 13) (σ.1 14) (σ.1 15) (σ.2.1 13) (σ.2.1 14) (σ.2.1 15) (σ.2.1 16) (σ.2.1 10) (σ.2.1 27) (σ.2.1 28) (σ.2.1 29) (σ.2.1 30) (σ.2.1 31) (σ.2.1 32) (σ.2.1 33) (σ.2.1 34) (σ.2.1 35) (σ.2.1 36) (σ.2.1 37) from CJ), (show J_bp (σ.2.1 44) (σ.2.1 45) from BP), (show J_nl (σ.1 3) (σ.2.1 2) (σ.2.1 3) (σ.2.1 4) from NL), (show 4 = 0 → J_rs (σ.1 35) (σ.1 7) (σ.1 6) (σ.1 36) (σ.1 37) (σ.1 5) (σ.1 8) (σ.2.1 14) from by (first | (intro z; exfalso; omega) | (intro z; have w := q2_2 z; unfold J_rs; omega) | (intro z; have w := q5_9 z; unfold J_rs; omega) | (intro z; have w := q8_11 z; unfold J_rs; omega) | (intro z; have w1 := q14_5 z; have w2 := q14_7 z; have w3 := q14_8 z; rw [show τ16.1 7 = σ.1 7 from by omega] at w1; unfold J_rs; rw [show τ16.1 7 = σ.1 7 from by omega]; omega) | (intro z; unfold J_rs; omega) | fail)), (show 4 = 0 → 5 ≤ (σ.1 35) → 1 ≤ (σ.1 36) → 0 ≤ σ.2.1 10 (σ.2.1 15 (σ.2.1 14 (σ.1 7))) from by (first | (intro z; exfalso; omega) | (intro z y; exfalso; omega) | (intro z y y2; exact q14_6 z) | fail)), (show 4 = 0 → (σ.1 35) = 4 → j_in (σ.1 36) 1000 (σ.2.1 54) from by (first | (intro z; exfalso; omega) | (intro z y; exfalso; omega) | (intro z y; exact q11_2 z) | fail)), (show 4 = 0 → 5 ≤ (σ.1 35) → J_ip (σ.1 7) (σ.1 6) (σ.1 37) (σ.2.1 14) (σ.2.1 15) (σ.2.1 16) (σ.2.1 19) from by (first | (intro z; exfalso; omega) | (intro z y; exfalso; omega) | (intro z y; exact q14_9 z) | fail)), (show 4 = 0 → ((σ.1 35) ≤ 5 → (σ.1 13) ≤ 60 * (σ.1 7)) ∧ (σ.1 13) ≤ 60 * (σ.1 7) + 60 from by (intro z; omega)), (show 4 = 0 → 6 ≤ (σ.1 35) → (σ.1 24) = (σ.1 7) ∧ J_f (σ.1 7) (σ.1 13) (σ.1 14) (σ.2.1 13) (σ.2.1 14) (σ.2.1 15) (σ.2.1 16) (σ.2.1 27) (σ.2.1 28) (σ.2.1 29) (σ.2.1 30) (σ.2.1 31) (σ.2.1 32) from by (first | (intro z; exfalso; omega) | (intro z y; exfalso; omega) | exact fun _ => frx | (intro z y; exact frx (by omega)) | (intro z y; have w := frx (by omega); rw [W7, W13, W14, W24, G13, G14, G15, G16, G27, G28, G29, G30, G31, G32]; exact w) | fail)), (show 4 = 0 → 6 ≤ (σ.1 35) → J_sp (σ.1 24) (σ.1 21) (σ.1 23) (σ.1 22) (σ.2.1 49) (σ.2.1 51) ∧ ((σ.1 16) + (σ.1 21) ≤ 20000) ∧ (¬ (σ.1 27) = 0 → 1 ≤ (σ.1 21) ∧ 0 ≤ σ.2.1 49 ((σ.1 21) - 1) ∧ σ.2.1 49 ((σ.1 21) - 1) < 65536) ∧ ((σ.1 26) ≤ 1000000) ∧ ((σ.1 25) ≤ 2 → (σ.1 27) = 0) from by (first | (intro z; exfalso; omega) | (intro z y; exfalso; omega) | exact fun _ => spx | (intro z y; exact spx (by omega)) | fail)), (show 4 = 0 → (σ.1 15) ≤ (σ.1 16) ∧ σ.2.1 36 (σ.1 15) ≤ (σ.1 16) from by (intro z; first | exact sux | omega)), (show 4 = 0 → (σ.1 9) ≤ (σ.1 7) from by (intro z; omega)), (show j_rr ((σ.1 5)) (σ.2.1 10) (σ.2.1 10) from by (first | exact j_rr0 _ _ | (rw [G10]; exact j_rr0 _ _) | exact q5_8 | exact q8_10 | exact q14_4 | fail)), (show j_eq (σ.2.1 36 (σ.1 15)) (σ.2.1 37) (σ.2.1 37) from CH), (show (σ.1 12) ≤ (σ.1 12) + 1 from by (first | assumption | omega | (simp only [st_s] <;> omega) | fail)), (show c_Y σ σ from by (first | exact c_Y0 _ | exact q8_12 | exact q14_10 | exact c_Y_g W4 G11 G20 G22 G25 | exact c_Y_g (by omega) (by rw [g11_τ4]) (by rw [g20_τ4]) (by rw [g22_τ4]) (by rw [g25_τ4]) | exact c_Y_g (by omega) (by rw [g11_τ7]) (by rw [g20_τ7]) (by rw [g22_τ7]) (by rw [g25_τ7]) | exact c_Y_g (by omega) (by rw [g11_τ13]) (by rw [g20_τ13]) (by rw [g22_τ13]) (by rw [g25_τ13]) | fail)), ag⟩
  ·
    refine ⟨_, K2_X7_label hT (show 0 ≤ n1 from by (first | assumption | omega | (simp only [st_s] <;> omega) | fail)) (show 0 ≤ n2 from by (first | assumption | omega | (simp only [st_s] <;> omega) | fail)) (show n1 + n2 ≤ 60000 from by (first | assumption | omega | (simp only [st_s] <;> omega) | fail)) (show ¬ σ.1 66 = 0 from by (first | assumption | omega | (simp only [st_s] <;> omega) | fail)) (show J_ht (σ.1 3) (σ.2.1 2) (σ.2.1 3) (σ.2.1 5) (σ.2.1 6) from HT) (show J_mn (σ.1 3) (σ.1 5) ((σ.1 7) + 1) (σ.2.1 4) from MN) (show J_nl (σ.1 3) (σ.2.1 2) (σ.2.1 3) (σ.2.1 4) from NL), ?_⟩
    intro x3 τ4 r_x3 hn_τ4 hf_τ4 hq
    obtain ⟨hT, q2_1, q2_2, q2_3, q2_4, q2_5, q2_6⟩ := hq
    replace q2_1 : 0 ≤ x3 ∧ x3 ≤ 19 := q2_1
    replace q2_2 : x3 = 0 → (τ4.1 35) = 1 ∧ (σ.1 7) < 1500 := q2_2
    replace q2_3 : J_ht (τ4.1 3) (τ4.2.1 2) (τ4.2.1 3) (τ4.2.1 5) (τ4.2.1 6) := q2_3
    replace q2_4 : J_mn (τ4.1 3) (τ4.1 5) ((τ4.1 7) + 1) (τ4.2.1 4) := q2_4
    replace q2_5 : J_nl (τ4.1 3) (τ4.2.1 2) (τ4.2.1 3) (τ4.2.1 4) := q2_5
    replace q2_6 : c_ag σ τ4 := q2_6
    replace ag : c_ag σ τ4 := ag_t ag q2_6 rfl
    have w4_τ4 : τ4.1 4 = σ.1 4 := hf_τ4.1 4 (by decide)
    have w5_τ4 : τ4.1 5 = σ.1 5 := hf_τ4.1 5 (by decide)
    have w6_τ4 : τ4.1 6 = σ.1 6 := hf_τ4.1 6 (by decide)
    have w7_τ4 : τ4.1 7 = σ.1 7 := hf_τ4.1 7 (by decide)
    have w8_τ4 : τ4.1 8 = σ.1 8 := hf_τ4.1 8 (by decide)
    have w9_τ4 : τ4.1 9 = σ.1 9 := hf_τ4.1 9 (by decide)
    have w10_τ4 : τ4.1 10 = σ.1 10 := hf_τ4.1 10 (by decide)
    have w11_τ4 : τ4.1 11 = σ.1 11 := hf_τ4.1 11 (by decide)
    have w12_τ4 : τ4.1 12 = σ.1 12 := hf_τ4.1 12 (by decide)
    have w13_τ4 : τ4.1 13 = σ.1 13 := hf_τ4.1 13 (by decide)
    have w14_τ4 : τ4.1 14 = σ.1 14 := hf_τ4.1 14 (by decide)
    have w15_τ4 : τ4.1 15 = σ.1 15 := hf_τ4.1 15 (by decide)
    have w16_τ4 : τ4.1 16 = σ.1 16 := hf_τ4.1 16 (by decide)
    have w21_τ4 : τ4.1 21 = σ.1 21 := hf_τ4.1 21 (by decide)
    have w22_τ4 : τ4.1 22 = σ.1 22 := hf_τ4.1 22 (by decide)
    have w23_τ4 : τ4.1 23 = σ.1 23 := hf_τ4.1 23 (by decide)
    have w24_τ4 : τ4.1 24 = σ.1 24 := hf_τ4.1 24 (by decide)
    have w25_τ4 : τ4.1 25 = σ.1 25 := hf_τ4.1 25 (by decide)
    have w26_τ4 : τ4.1 26 = σ.1 26 := hf_τ4.1 26 (by decide)
    have w27_τ4 : τ4.1 27 = σ.1 27 := hf_τ4.1 27 (by decide)
    have w36_τ4 : τ4.1 36 = σ.1 36 := hf_τ4.1 36 (by decide)
    have w37_τ4 : τ4.1 37 = σ.1 37 := hf_τ4.1 37 (by decide)
    have w38_τ4 : τ4.1 38 = σ.1 38 := hf_τ4.1 38 (by decide)
    have w66_τ4 : τ4.1 66 = σ.1 66 := hf_τ4.1 66 (by decide)
    have g8_τ4 : τ4.2.1 8 = σ.2.1 8 := hf_τ4.2.1 8 (by decide)
    have g9_τ4 : τ4.2.1 9 = σ.2.1 9 := hf_τ4.2.1 9 (by decide)
    have g10_τ4 : τ4.2.1 10 = σ.2.1 10 := hf_τ4.2.1 10 (by decide)
    have g11_τ4 : τ4.2.1 11 = σ.2.1 11 := hf_τ4.2.1 11 (by decide)
    have g13_τ4 : τ4.2.1 13 = σ.2.1 13 := hf_τ4.2.1 13 (by decide)
    have g14_τ4 : τ4.2.1 14 = σ.2.1 14 := hf_τ4.2.1 14 (by decide)
    have g15_τ4 : τ4.2.1 15 = σ.2.1 15 := hf_τ4.2.1 15 (by decide)
    have g16_τ4 : τ4.2.1 16 = σ.2.1 16 := hf_τ4.2.1 16 (by decide)
    have g18_τ4 : τ4.2.1 18 = σ.2.1 18 := hf_τ4.2.1 18 (by decide)
    have g19_τ4 : τ4.2.1 19 = σ.2.1 19 := hf_τ4.2.1 19 (by decide)
    have g20_τ4 : τ4.2.1 20 = σ.2.1 20 := hf_τ4.2.1 20 (by decide)
    have g22_τ4 : τ4.2.1 22 = σ.2.1 22 := hf_τ4.2.1 22 (by decide)
    have g23_τ4 : τ4.2.1 23 = σ.2.1 23 := hf_τ4.2.1 23 (by decide)
    have g24_τ4 : τ4.2.1 24 = σ.2.1 24 := hf_τ4.2.1 24 (by decide)
    have g25_τ4 : τ4.2.1 25 = σ.2.1 25 := hf_τ4.2.1 25 (by decide)
    have g26_τ4 : τ4.2.1 26 = σ.2.1 26 := hf_τ4.2.1 26 (by decide)
    have g27_τ4 : τ4.2.1 27 = σ.2.1 27 := hf_τ4.2.1 27 (by decide)
    have g28_τ4 : τ4.2.1 28 = σ.2.1 28 := hf_τ4.2.1 28 (by decide)
    have g29_τ4 : τ4.2.1 29 = σ.2.1 29 := hf_τ4.2.1 29 (by decide)
    have g30_τ4 : τ4.2.1 30 = σ.2.1 30 := hf_τ4.2.1 30 (by decide)
    have g31_τ4 : τ4.2.1 31 = σ.2.1 31 := hf_τ4.2.1 31 (by decide)
    have g32_τ4 : τ4.2.1 32 = σ.2.1 32 := hf_τ4.2.1 32 (by decide)
    have g33_τ4 : τ4.2.1 33 = σ.2.1 33 := hf_τ4.2.1 33 (by decide)
    have g34_τ4 : τ4.2.1 34 = σ.2.1 34 := hf_τ4.2.1 34 (by decide)
    have g35_τ4 : τ4.2.1 35 = σ.2.1 35 := hf_τ4.2.1 35 (by decide)
    have g36_τ4 : τ4.2.1 36 = σ.2.1 36 := hf_τ4.2.1 36 (by decide)
    have g37_τ4 : τ4.2.1 37 = σ.2.1 37 := hf_τ4.2.1 37 (by decide)
    have g44_τ4 : τ4.2.1 44 = σ.2.1 44 := hf_τ4.2.1 44 (by decide)
    have g45_τ4 : τ4.2.1 45 = σ.2.1 45 := hf_τ4.2.1 45 (by decide)
    have g49_τ4 : τ4.2.1 49 = σ.2.1 49 := hf_τ4.2.1 49 (by decide)
    have g51_τ4 : τ4.2.1 51 = σ.2.1 51 := hf_τ4.2.1 51 (by decide)
    have g54_τ4 : τ4.2.1 54 = σ.2.1 54 := hf_τ4.2.1 54 (by decide)
    have W7 : τ4.1 7 = σ.1 7 := by omega
    have W9 : τ4.1 9 = σ.1 9 := by omega
    have W11 : τ4.1 11 = σ.1 11 := by omega
    have W12 : τ4.1 12 = σ.1 12 := by omega
    have W13 : τ4.1 13 = σ.1 13 := by omega
    have W14 : τ4.1 14 = σ.1 14 := by omega
    have W15 : τ4.1 15 = σ.1 15 := by omega
    have W16 : τ4.1 16 = σ.1 16 := by omega
    have W21 : τ4.1 21 = σ.1 21 := by omega
    have W22 : τ4.1 22 = σ.1 22 := by omega
    have W23 : τ4.1 23 = σ.1 23 := by omega
    have W24 : τ4.1 24 = σ.1 24 := by omega
    have W25 : τ4.1 25 = σ.1 25 := by omega
    have W26 : τ4.1 26 = σ.1 26 := by omega
    have W27 : τ4.1 27 = σ.1 27 := by omega
    have W37 : τ4.1 37 = σ.1 37 := by omega
    have W38 : τ4.1 38 = σ.1 38 := by omega
    have W66 : τ4.1 66 = σ.1 66 := by omega
    have G13 : τ4.2.1 13 = σ.2.1 13 := (g13_τ4).trans G13
    have G19 : τ4.2.1 19 = σ.2.1 19 := (g19_τ4).trans G19
    have G22 : τ4.2.1 22 = σ.2.1 22 := (g22_τ4).trans G22
    have G25 : τ4.2.1 25 = σ.2.1 25 := (g25_τ4).trans G25
    have G26 : τ4.2.1 26 = σ.2.1 26 := (g26_τ4).trans G26
    have G27 : τ4.2.1 27 = σ.2.1 27 := (g27_τ4).trans G27
    have G28 : τ4.2.1 28 = σ.2.1 28 := (g28_τ4).trans G28
    have G29 : τ4.2.1 29 = σ.2.1 29 := (g29_τ4).trans G29
    have G30 : τ4.2.1 30 = σ.2.1 30 := (g30_τ4).trans G30
    have G31 : τ4.2.1 31 = σ.2.1 31 := (g31_τ4).trans G31
    have G32 : τ4.2.1 32 = σ.2.1 32 := (g32_τ4).trans G32
    have G33 : τ4.2.1 33 = σ.2.1 33 := (g33_τ4).trans G33
    have G34 : τ4.2.1 34 = σ.2.1 34 := (g34_τ4).trans G34
    have G35 : τ4.2.1 35 = σ.2.1 35 := (g35_τ4).trans G35
    have G36 : τ4.2.1 36 = σ.2.1 36 := (g36_τ4).trans G36
    have G37 : τ4.2.1 37 = σ.2.1 37 := (g37_τ4).trans G37
    have G44 : τ4.2.1 44 = σ.2.1 44 := (g44_τ4).trans G44
    have G45 : τ4.2.1 45 = σ.2.1 45 := (g45_τ4).trans G45
    have G49 : τ4.2.1 49 = σ.2.1 49 := (g49_τ4).trans G49
    have G51 : τ4.2.1 51 = σ.2.1 51 := (g51_τ4).trans G51
    have y14_7_τ4 : τ4.2.1 14 (τ4.1 7) = (σ.2.1 14) (σ.1 7) := by rw [g14_τ4, w7_τ4]
    have y36_15_τ4 : τ4.2.1 36 (τ4.1 15) = (σ.2.1 36) (σ.1 15) := by rw [g36_τ4, w15_τ4]
    have HT : J_ht (τ4.1 3) (τ4.2.1 2) (τ4.2.1 3) (τ4.2.1 5) (τ4.2.1 6) := q2_3
    have NL : J_nl (τ4.1 3) (τ4.2.1 2) (τ4.2.1 3) (τ4.2.1 4) := q2_5
    have MN : J_mn (τ4.1 3) (τ4.1 5) ((τ4.1 7) + 1) (τ4.2.1 4) := q2_4
    have VA : J_va (τ4.1 8) 1000 (τ4.2.1 18) (τ4.2.1 20) := by rw [show (J_va (τ4.1 8) 1000 (τ4.2.1 18) (τ4.2.1 20)) = (J_va (σ.1 8) 1000 (σ.2.1 18) (σ.2.1 20)) from by rw [w8_τ4, g18_τ4, g20_τ4]]; exact VA
    have SC : J_sc (τ4.1 7) (τ4.1 9) (τ4.2.1 13) (τ4.2.1 14) (τ4.2.1 15) (τ4.2.1 16) (τ4.2.1 22) (τ4.2.1 19) := by rw [show (J_sc (τ4.1 7) (τ4.1 9) (τ4.2.1 13) (τ4.2.1 14) (τ4.2.1 15) (τ4.2.1 16) (τ4.2.1 22) (τ4.2.1 19)) = (J_sc (σ.1 7) (σ.1 9) (σ.2.1 13) (σ.2.1 14) (σ.2.1 15) (σ.2.1 16) (σ.2.1 22) (σ.2.1 19)) from by rw [w7_τ4, w9_τ4, g13_τ4, g14_τ4, g15_τ4, g16_τ4, g19_τ4, g22_τ4]]; exact SC
    have MK : J_mk (τ4.1 11) (τ4.1 8) (τ4.1 9) (τ4.1 10) (τ4.2.1 25) := by rw [show (J_mk (τ4.1 11) (τ4.1 8) (τ4.1 9) (τ4.1 10) (τ4.2.1 25)) = (J_mk (σ.1 11) (σ.1 8) (σ.1 9) (σ.1 10) (σ.2.1 25)) from by rw [w8_τ4, w9_τ4, w10_τ4, w11_τ4, g25_τ4]]; exact MK
    have FF : J_ff (τ4.1 5) (τ4.1 7) (τ4.2.1 9) (τ4.2.1 13) (τ4.2.1 14) (τ4.2.1 15) := by rw [show (J_ff (τ4.1 5) (τ4.1 7) (τ4.2.1 9) (τ4.2.1 13) (τ4.2.1 14) (τ4.2.1 15)) = (J_ff (σ.1 5) (σ.1 7) (σ.2.1 9) (σ.2.1 13) (σ.2.1 14) (σ.2.1 15)) from by rw [w5_τ4, w7_τ4, g9_τ4, g13_τ4, g14_τ4, g15_τ4]]; exact FF
    have MT : ∀ s : Int, τ4.2.1 26 s ≤ (τ4.1 12) := by rw [show (∀ s : Int, τ4.2.1 26 s ≤ (τ4.1 12)) = (∀ s : Int, σ.2.1 26 s ≤ (σ.1 12)) from by rw [w12_τ4, g26_τ4]]; exact MT
    have VS : J_vs (τ4.1 8) (τ4.1 5) (τ4.2.1 20) := by rw [show (J_vs (τ4.1 8) (τ4.1 5) (τ4.2.1 20)) = (J_vs (σ.1 8) (σ.1 5) (σ.2.1 20)) from by rw [w5_τ4, w8_τ4, g20_τ4]]; exact VS
    have TX : J_vs (τ4.1 6) (τ4.1 5) (τ4.2.1 15) := by rw [show (J_vs (τ4.1 6) (τ4.1 5) (τ4.2.1 15)) = (J_vs (σ.1 6) (σ.1 5) (σ.2.1 15)) from by rw [w5_τ4, w6_τ4, g15_τ4]]; exact TX
    have RKS : J_rks (τ4.1 5) (τ4.1 4) (τ4.2.1 10) (τ4.2.1 11) := by rw [show (J_rks (τ4.1 5) (τ4.1 4) (τ4.2.1 10) (τ4.2.1 11)) = (J_rks (σ.1 5) (σ.1 4) (σ.2.1 10) (σ.2.1 11)) from by rw [w4_τ4, w5_τ4, g10_τ4, g11_τ4]]; exact RKS
    have CJ : J_all (τ4.1 7) (τ4.1 6) (τ4.1 13) (τ4.1 14) (τ4.1 15) (τ4.2.1 13) (τ4.2.1 14) (τ4.2.1 15) (τ4.2.1 16) (τ4.2.1 10) (τ4.2.1 27) (τ4.2.1 28) (τ4.2.1 29) (τ4.2.1 30) (τ4.2.1 31) (τ4.2.1 32) (τ4.2.1 33) (τ4.2.1 34) (τ4.2.1 35) (τ4.2.1 36) (τ4.2.1 37) := by rw [show (J_all (τ4.1 7) (τ4.1 6) (τ4.1 13) (τ4.1 14) (τ4.1 15) (τ4.2.1 13) (τ4.2.1 14) (τ4.2.1 15) (τ4.2.1 16) (τ4.2.1 10) (τ4.2.1 27) (τ4.2.1 28) (τ4.2.1 29) (τ4.2.1 30) (τ4.2.1 31) (τ4.2.1 32) (τ4.2.1 33) (τ4.2.1 34) (τ4.2.1 35) (τ4.2.1 36) (τ4.2.1 37)) = (J_all (σ.1 7) (σ.1 6) (σ.1 13) (σ.1 14) (σ.1 15) (σ.2.1 13) (σ.2.1 14) (σ.2.1 15) (σ.2.1 16) (σ.2.1 10) (σ.2.1 27) (σ.2.1 28) (σ.2.1 29) (σ.2.1 30) (σ.2.1 31) (σ.2.1 32) (σ.2.1 33) (σ.2.1 34) (σ.2.1 35) (σ.2.1 36) (σ.2.1 37)) from by rw [w6_τ4, w7_τ4, w13_τ4, w14_τ4, w15_τ4, g10_τ4, g13_τ4, g14_τ4, g15_τ4, g16_τ4, g27_τ4, g28_τ4, g29_τ4, g30_τ4, g31_τ4, g32_τ4, g33_τ4, g34_τ4, g35_τ4, g36_τ4, g37_τ4]]; exact CJ
    have BP : J_bp (τ4.2.1 44) (τ4.2.1 45) := by rw [show (J_bp (τ4.2.1 44) (τ4.2.1 45)) = (J_bp (σ.2.1 44) (σ.2.1 45)) from by rw [g44_τ4, g45_τ4]]; exact BP
    have CH : j_eq (σ.2.1 36 (σ.1 15)) (σ.2.1 37) (τ4.2.1 37) := by rw [show (j_eq (σ.2.1 36 (σ.1 15)) (σ.2.1 37) (τ4.2.1 37)) = (j_eq (σ.2.1 36 (σ.1 15)) (σ.2.1 37) (σ.2.1 37)) from by rw [g37_τ4]]; exact CH
    have A2 : ∀ j, 0 ≤ τ4.2.1 2 j ∧ τ4.2.1 2 j ≤ 65535 := fun j => hT.2 2 j
    have A3 : ∀ j, 0 ≤ τ4.2.1 3 j ∧ τ4.2.1 3 j ≤ 30000 := fun j => hT.2 3 j
    have A4 : ∀ j, (-1000) ≤ τ4.2.1 4 j ∧ τ4.2.1 4 j ≤ 1499 := fun j => hT.2 4 j
    have A5 : ∀ j, 0 ≤ τ4.2.1 5 j ∧ τ4.2.1 5 j ≤ 2500 := fun j => hT.2 5 j
    have A6 : ∀ j, 0 ≤ τ4.2.1 6 j ∧ τ4.2.1 6 j ≤ 2500 := fun j => hT.2 6 j
    have A8 : ∀ j, 0 ≤ τ4.2.1 8 j ∧ τ4.2.1 8 j ≤ 1 := fun j => hT.2 8 j
    have A9 : ∀ j, (-1) ≤ τ4.2.1 9 j ∧ τ4.2.1 9 j ≤ 1499 := fun j => hT.2 9 j
    have A10 : ∀ j, (-1) ≤ τ4.2.1 10 j ∧ τ4.2.1 10 j ≤ 99 := fun j => hT.2 10 j
    have A11 : ∀ j, 0 ≤ τ4.2.1 11 j ∧ τ4.2.1 11 j ≤ 999 := fun j => hT.2 11 j
    have A13 : ∀ j, 0 ≤ τ4.2.1 13 j ∧ τ4.2.1 13 j ≤ 4 := fun j => hT.2 13 j
    have A14 : ∀ j, 0 ≤ τ4.2.1 14 j ∧ τ4.2.1 14 j ≤ 30000 := fun j => hT.2 14 j
    have A15 : ∀ j, 0 ≤ τ4.2.1 15 j ∧ τ4.2.1 15 j ≤ 999 := fun j => hT.2 15 j
    have A16 : ∀ j, (-1) ≤ τ4.2.1 16 j ∧ τ4.2.1 16 j ≤ 1499 := fun j => hT.2 16 j
    have A18 : ∀ j, 0 ≤ τ4.2.1 18 j ∧ τ4.2.1 18 j ≤ 1 := fun j => hT.2 18 j
    have A19 : ∀ j, (-1) ≤ τ4.2.1 19 j ∧ τ4.2.1 19 j ≤ 1499 := fun j => hT.2 19 j
    have A20 : ∀ j, 0 ≤ τ4.2.1 20 j ∧ τ4.2.1 20 j ≤ 999 := fun j => hT.2 20 j
    have A22 : ∀ j, 0 ≤ τ4.2.1 22 j ∧ τ4.2.1 22 j ≤ 1499 := fun j => hT.2 22 j
    have A23 : ∀ j, 0 ≤ τ4.2.1 23 j ∧ τ4.2.1 23 j ≤ 999 := fun j => hT.2 23 j
    have A24 : ∀ j, 0 ≤ τ4.2.1 24 j ∧ τ4.2.1 24 j ≤ 999 := fun j => hT.2 24 j
    have A26 : ∀ j, (-2147483648) ≤ τ4.2.1 26 j ∧ τ4.2.1 26 j ≤ 2147483647 := fun j => hT.2 26 j
    have A27 : ∀ j, 0 ≤ τ4.2.1 27 j ∧ τ4.2.1 27 j ≤ 90000 := fun j => hT.2 27 j
    have A28 : ∀ j, 0 ≤ τ4.2.1 28 j ∧ τ4.2.1 28 j ≤ 60 := fun j => hT.2 28 j
    have A29 : ∀ j, 0 ≤ τ4.2.1 29 j ∧ τ4.2.1 29 j ≤ 1499 := fun j => hT.2 29 j
    have A30 : ∀ j, 0 ≤ τ4.2.1 30 j ∧ τ4.2.1 30 j ≤ 20000 := fun j => hT.2 30 j
    have A31 : ∀ j, 0 ≤ τ4.2.1 31 j ∧ τ4.2.1 31 j ≤ 20000 := fun j => hT.2 31 j
    have A32 : ∀ j, 0 ≤ τ4.2.1 32 j ∧ τ4.2.1 32 j ≤ 999999 := fun j => hT.2 32 j
    have A33 : ∀ j, 0 ≤ τ4.2.1 33 j ∧ τ4.2.1 33 j ≤ 20000 := fun j => hT.2 33 j
    have A34 : ∀ j, 0 ≤ τ4.2.1 34 j ∧ τ4.2.1 34 j ≤ 20000 := fun j => hT.2 34 j
    have A35 : ∀ j, 0 ≤ τ4.2.1 35 j ∧ τ4.2.1 35 j ≤ 1499 := fun j => hT.2 35 j
    have A36 : ∀ j, 0 ≤ τ4.2.1 36 j ∧ τ4.2.1 36 j ≤ 20000 := fun j => hT.2 36 j
    have A37 : ∀ j, 0 ≤ τ4.2.1 37 j ∧ τ4.2.1 37 j ≤ 19999 := fun j => hT.2 37 j
    have A44 : ∀ j, 0 ≤ τ4.2.1 44 j ∧ τ4.2.1 44 j ≤ 42000 := fun j => hT.2 44 j
    have A45 : ∀ j, 0 ≤ τ4.2.1 45 j ∧ τ4.2.1 45 j ≤ 1000 := fun j => hT.2 45 j
    have A49 : ∀ j, (-300) ≤ τ4.2.1 49 j ∧ τ4.2.1 49 j ≤ 67035 := fun j => hT.2 49 j
    have A51 : ∀ j, 0 ≤ τ4.2.1 51 j ∧ τ4.2.1 51 j ≤ 1499 := fun j => hT.2 51 j
    have A54 : ∀ j, 0 ≤ τ4.2.1 54 j ∧ τ4.2.1 54 j ≤ 999 := fun j => hT.2 54 j
    have v3 : 0 ≤ τ4.1 3 ∧ τ4.1 3 ≤ 2500 := hT.1 3
    have v4 : 0 ≤ τ4.1 4 ∧ τ4.1 4 ≤ 100 := hT.1 4
    have v5 : 0 ≤ τ4.1 5 ∧ τ4.1 5 ≤ 1000 := hT.1 5
    have v6 : 0 ≤ τ4.1 6 ∧ τ4.1 6 ≤ 30000 := hT.1 6
    have v7 : 0 ≤ τ4.1 7 ∧ τ4.1 7 ≤ 1500 := hT.1 7
    have v8 : 0 ≤ τ4.1 8 ∧ τ4.1 8 ≤ 1000 := hT.1 8
    have v9 : 0 ≤ τ4.1 9 ∧ τ4.1 9 ≤ 1500 := hT.1 9
    have v10 : 0 ≤ τ4.1 10 ∧ τ4.1 10 ≤ 1000 := hT.1 10
    have v11 : 0 ≤ τ4.1 11 ∧ τ4.1 11 ≤ 50 := hT.1 11
    have v12 : (-2147483648) ≤ τ4.1 12 ∧ τ4.1 12 ≤ 2147483647 := hT.1 12
    have v13 : 0 ≤ τ4.1 13 ∧ τ4.1 13 ≤ 90000 := hT.1 13
    have v14 : 0 ≤ τ4.1 14 ∧ τ4.1 14 ≤ 20000 := hT.1 14
    have v15 : 0 ≤ τ4.1 15 ∧ τ4.1 15 ≤ 20000 := hT.1 15
    have v16 : 0 ≤ τ4.1 16 ∧ τ4.1 16 ≤ 20000 := hT.1 16
    have v21 : 0 ≤ τ4.1 21 ∧ τ4.1 21 ≤ 20000 := hT.1 21
    have v22 : 0 ≤ τ4.1 22 ∧ τ4.1 22 ≤ 300 := hT.1 22
    have v23 : 0 ≤ τ4.1 23 ∧ τ4.1 23 ≤ 300 := hT.1 23
    have v24 : 0 ≤ τ4.1 24 ∧ τ4.1 24 ≤ 1499 := hT.1 24
    have v25 : 0 ≤ τ4.1 25 ∧ τ4.1 25 ≤ 3 := hT.1 25
    have v26 : 0 ≤ τ4.1 26 ∧ τ4.1 26 ≤ 5000010 := hT.1 26
    have v27 : 0 ≤ τ4.1 27 ∧ τ4.1 27 ≤ 1 := hT.1 27
    have v35 : 0 ≤ τ4.1 35 ∧ τ4.1 35 ≤ 7 := hT.1 35
    have v36 : 0 ≤ τ4.1 36 ∧ τ4.1 36 ≤ 1001 := hT.1 36
    have v37 : 0 ≤ τ4.1 37 ∧ τ4.1 37 ≤ 4 := hT.1 37
    have v38 : (-1) ≤ τ4.1 38 ∧ τ4.1 38 ≤ 999 := hT.1 38
    have v66 : 0 ≤ τ4.1 66 ∧ τ4.1 66 ≤ 1 := hT.1 66
    have a14_7 : 0 ≤ τ4.2.1 14 (τ4.1 7) ∧ τ4.2.1 14 (τ4.1 7) ≤ 30000 := hT.2 14 _
    have a36_15 : 0 ≤ τ4.2.1 36 (τ4.1 15) ∧ τ4.2.1 36 (τ4.1 15) ≤ 20000 := hT.2 36 _
    have av3 : σ.1 3 ≤ τ4.1 3 := ag.1 3 (by decide)
    have av5 : σ.1 5 ≤ τ4.1 5 := ag.1 5 (by decide)
    have av6 : σ.1 6 ≤ τ4.1 6 := ag.1 6 (by decide)
    have a14 := ag_k ag 14 7 1 (by decide) (σ.1 7) (by omega)
    exact ⟨hT, (show 0 ≤ x3 ∧ x3 ≤ 19 from by (first | assumption | omega | (simp only [st_s] <;> omega) | fail)), (show J_ht (τ4.1 3) (τ4.2.1 2) (τ4.2.1 3) (τ4.2.1 5) (τ4.2.1 6) from HT), (show J_mn (τ4.1 3) (τ4.1 5) ((τ4.1 7) + 1) (τ4.2.1 4) from MN), (show J_rks (τ4.1 5) (τ4.1 4) (τ4.2.1 10) (τ4.2.1 11) from RKS), (show J_vs (τ4.1 8) (τ4.1 5) (τ4.2.1 20) from VS), (show J_vs (τ4.1 6) (τ4.1 5) (τ4.2.1 15) from TX), (show J_va (τ4.1 8) 1000 (τ4.2.1 18) (τ4.2.1 20) from VA), (show J_mk (τ4.1 11) (τ4.1 8) (τ4.1 9) (τ4.1 10) (τ4.2.1 25) from MK), (show J_sc (τ4.1 7) (τ4.1 9) (τ4.2.1 13) (τ4.2.1 14) (τ4.2.1 15) (τ4.2.1 16) (τ4.2.1 22) (τ4.2.1 19) from SC), (show J_ff (τ4.1 5) (τ4.1 7) (τ4.2.1 9) (τ4.2.1 13) (τ4.2.1 14) (τ4.2.1 15) from FF), (show ∀ s : Int, τ4.2.1 26 s ≤ (τ4.1 12) from MT), (show J_all (τ4.1 7) (τ4.1 6) (τ4.1 13) (τ4.1 14) (τ4.1 15) (τ4.2.1 13) (τ4.2.1 14) (τ4.2.1 15) (τ4.2.1 16) (τ4.2.1 10) (τ4.2.1 27) (τ4.2.1 28) (τ4.2.1 29) (τ4.2.1 30) (τ4.2.1 31) (τ4.2.1 32) (τ4.2.1 33) (τ4.2.1 34) (τ4.2.1 35) (τ4.2.1 36) (τ4.2.1 37) from CJ), (show J_bp (τ4.2.1 44) (τ4.2.1 45) from BP), (show J_nl (τ4.1 3) (τ4.2.1 2) (τ4.2.1 3) (τ4.2.1 4) from NL), (show x3 = 0 → J_rs (τ4.1 35) (τ4.1 7) (τ4.1 6) (τ4.1 36) (τ4.1 37) (τ4.1 5) (τ4.1 8) (τ4.2.1 14) from by (first | (intro z; exfalso; omega) | (intro z; have w := q2_2 z; unfold J_rs; omega) | (intro z; have w := q5_9 z; unfold J_rs; omega) | (intro z; have w := q8_11 z; unfold J_rs; omega) | (intro z; have w1 := q14_5 z; have w2 := q14_7 z; have w3 := q14_8 z; rw [show τ16.1 7 = σ.1 7 from by omega] at w1; unfold J_rs; rw [show τ16.1 7 = σ.1 7 from by omega]; omega) | (intro z; unfold J_rs; omega) | fail)), (show x3 = 0 → 5 ≤ (τ4.1 35) → 1 ≤ (τ4.1 36) → 0 ≤ τ4.2.1 10 (τ4.2.1 15 (τ4.2.1 14 (τ4.1 7))) from by (first | (intro z; exfalso; omega) | (intro z y; exfalso; omega) | (intro z y y2; exact q14_6 z) | fail)), (show x3 = 0 → (τ4.1 35) = 4 → j_in (τ4.1 36) 1000 (τ4.2.1 54) from by (first | (intro z; exfalso; omega) | (intro z y; exfalso; omega) | (intro z y; exact q11_2 z) | fail)), (show x3 = 0 → 5 ≤ (τ4.1 35) → J_ip (τ4.1 7) (τ4.1 6) (τ4.1 37) (τ4.2.1 14) (τ4.2.1 15) (τ4.2.1 16) (τ4.2.1 19) from by (first | (intro z; exfalso; omega) | (intro z y; exfalso; omega) | (intro z y; exact q14_9 z) | fail)), (show x3 = 0 → ((τ4.1 35) ≤ 5 → (τ4.1 13) ≤ 60 * (τ4.1 7)) ∧ (τ4.1 13) ≤ 60 * (τ4.1 7) + 60 from by (intro z; omega)), (show x3 = 0 → 6 ≤ (τ4.1 35) → (τ4.1 24) = (τ4.1 7) ∧ J_f (τ4.1 7) (τ4.1 13) (τ4.1 14) (τ4.2.1 13) (τ4.2.1 14) (τ4.2.1 15) (τ4.2.1 16) (τ4.2.1 27) (τ4.2.1 28) (τ4.2.1 29) (τ4.2.1 30) (τ4.2.1 31) (τ4.2.1 32) from by (first | (intro z; exfalso; omega) | (intro z y; exfalso; omega) | exact fun _ => frx | (intro z y; exact frx (by omega)) | (intro z y; have w := frx (by omega); rw [W7, W13, W14, W24, G13, G14, G15, G16, G27, G28, G29, G30, G31, G32]; exact w) | fail)), (show x3 = 0 → 6 ≤ (τ4.1 35) → J_sp (τ4.1 24) (τ4.1 21) (τ4.1 23) (τ4.1 22) (τ4.2.1 49) (τ4.2.1 51) ∧ ((τ4.1 16) + (τ4.1 21) ≤ 20000) ∧ (¬ (τ4.1 27) = 0 → 1 ≤ (τ4.1 21) ∧ 0 ≤ τ4.2.1 49 ((τ4.1 21) - 1) ∧ τ4.2.1 49 ((τ4.1 21) - 1) < 65536) ∧ ((τ4.1 26) ≤ 1000000) ∧ ((τ4.1 25) ≤ 2 → (τ4.1 27) = 0) from by (first | (intro z; exfalso; omega) | (intro z y; exfalso; omega) | exact fun _ => spx | (intro z y; exact spx (by omega)) | fail)), (show x3 = 0 → (τ4.1 15) ≤ (τ4.1 16) ∧ τ4.2.1 36 (τ4.1 15) ≤ (τ4.1 16) from by (intro z; first | exact sux | omega)), (show x3 = 0 → (τ4.1 9) ≤ (τ4.1 7) from by (intro z; omega)), (show j_rr ((σ.1 5)) (σ.2.1 10) (τ4.2.1 10) from by (first | exact j_rr0 _ _ | (rw [G10]; exact j_rr0 _ _) | exact q5_8 | exact q8_10 | exact q14_4 | fail)), (show j_eq (σ.2.1 36 (σ.1 15)) (σ.2.1 37) (τ4.2.1 37) from CH), (show (τ4.1 12) ≤ (σ.1 12) + 1 from by (first | assumption | omega | (simp only [st_s] <;> omega) | fail)), (show c_Y σ τ4 from by (first | exact c_Y0 _ | exact q8_12 | exact q14_10 | exact c_Y_g W4 G11 G20 G22 G25 | exact c_Y_g (by omega) (by rw [g11_τ4]) (by rw [g20_τ4]) (by rw [g22_τ4]) (by rw [g25_τ4]) | exact c_Y_g (by omega) (by rw [g11_τ7]) (by rw [g20_τ7]) (by rw [g22_τ7]) (by rw [g25_τ7]) | exact c_Y_g (by omega) (by rw [g11_τ13]) (by rw [g20_τ13]) (by rw [g22_τ13]) (by rw [g25_τ13]) | fail)), ag⟩
  ·
    exact ⟨hT, (show 0 ≤ 4 ∧ 4 ≤ 19 from by (first | assumption | omega | (simp only [st_s] <;> omega) | fail)), (show J_ht (σ.1 3) (σ.2.1 2) (σ.2.1 3) (σ.2.1 5) (σ.2.1 6) from HT), (show J_mn (σ.1 3) (σ.1 5) ((σ.1 7) + 1) (σ.2.1 4) from MN), (show J_rks (σ.1 5) (σ.1 4) (σ.2.1 10) (σ.2.1 11) from RKS), (show J_vs (σ.1 8) (σ.1 5) (σ.2.1 20) from VS), (show J_vs (σ.1 6) (σ.1 5) (σ.2.1 15) from TX), (show J_va (σ.1 8) 1000 (σ.2.1 18) (σ.2.1 20) from VA), (show J_mk (σ.1 11) (σ.1 8) (σ.1 9) (σ.1 10) (σ.2.1 25) from MK), (show J_sc (σ.1 7) (σ.1 9) (σ.2.1 13) (σ.2.1 14) (σ.2.1 15) (σ.2.1 16) (σ.2.1 22) (σ.2.1 19) from SC), (show J_ff (σ.1 5) (σ.1 7) (σ.2.1 9) (σ.2.1 13) (σ.2.1 14) (σ.2.1 15) from FF), (show ∀ s : Int, σ.2.1 26 s ≤ (σ.1 12) from MT), (show J_all (σ.1 7) (σ.1 6) (σ.1 13) (σ.1 14) (σ.1 15) (σ.2.1 13) (σ.2.1 14) (σ.2.1 15) (σ.2.1 16) (σ.2.1 10) (σ.2.1 27) (σ.2.1 28) (σ.2.1 29) (σ.2.1 30) (σ.2.1 31) (σ.2.1 32) (σ.2.1 33) (σ.2.1 34) (σ.2.1 35) (σ.2.1 36) (σ.2.1 37) from CJ), (show J_bp (σ.2.1 44) (σ.2.1 45) from BP), (show J_nl (σ.1 3) (σ.2.1 2) (σ.2.1 3) (σ.2.1 4) from NL), (show 4 = 0 → J_rs (σ.1 35) (σ.1 7) (σ.1 6) (σ.1 36) (σ.1 37) (σ.1 5) (σ.1 8) (σ.2.1 14) from by (first | (intro z; exfalso; omega) | (intro z; have w := q2_2 z; unfold J_rs; omega) | (intro z; have w := q5_9 z; unfold J_rs; omega) | (intro z; have w := q8_11 z; unfold J_rs; omega) | (intro z; have w1 := q14_5 z; have w2 := q14_7 z; have w3 := q14_8 z; rw [show τ16.1 7 = σ.1 7 from by omega] at w1; unfold J_rs; rw [show τ16.1 7 = σ.1 7 from by omega]; omega) | (intro z; unfold J_rs; omega) | fail)), (show 4 = 0 → 5 ≤ (σ.1 35) → 1 ≤ (σ.1 36) → 0 ≤ σ.2.1 10 (σ.2.1 15 (σ.2.1 14 (σ.1 7))) from by (first | (intro z; exfalso; omega) | (intro z y; exfalso; omega) | (intro z y y2; exact q14_6 z) | fail)), (show 4 = 0 → (σ.1 35) = 4 → j_in (σ.1 36) 1000 (σ.2.1 54) from by (first | (intro z; exfalso; omega) | (intro z y; exfalso; omega) | (intro z y; exact q11_2 z) | fail)), (show 4 = 0 → 5 ≤ (σ.1 35) → J_ip (σ.1 7) (σ.1 6) (σ.1 37) (σ.2.1 14) (σ.2.1 15) (σ.2.1 16) (σ.2.1 19) from by (first | (intro z; exfalso; omega) | (intro z y; exfalso; omega) | (intro z y; exact q14_9 z) | fail)), (show 4 = 0 → ((σ.1 35) ≤ 5 → (σ.1 13) ≤ 60 * (σ.1 7)) ∧ (σ.1 13) ≤ 60 * (σ.1 7) + 60 from by (intro z; omega)), (show 4 = 0 → 6 ≤ (σ.1 35) → (σ.1 24) = (σ.1 7) ∧ J_f (σ.1 7) (σ.1 13) (σ.1 14) (σ.2.1 13) (σ.2.1 14) (σ.2.1 15) (σ.2.1 16) (σ.2.1 27) (σ.2.1 28) (σ.2.1 29) (σ.2.1 30) (σ.2.1 31) (σ.2.1 32) from by (first | (intro z; exfalso; omega) | (intro z y; exfalso; omega) | exact fun _ => frx | (intro z y; exact frx (by omega)) | (intro z y; have w := frx (by omega); rw [W7, W13, W14, W24, G13, G14, G15, G16, G27, G28, G29, G30, G31, G32]; exact w) | fail)), (show 4 = 0 → 6 ≤ (σ.1 35) → J_sp (σ.1 24) (σ.1 21) (σ.1 23) (σ.1 22) (σ.2.1 49) (σ.2.1 51) ∧ ((σ.1 16) + (σ.1 21) ≤ 20000) ∧ (¬ (σ.1 27) = 0 → 1 ≤ (σ.1 21) ∧ 0 ≤ σ.2.1 49 ((σ.1 21) - 1) ∧ σ.2.1 49 ((σ.1 21) - 1) < 65536) ∧ ((σ.1 26) ≤ 1000000) ∧ ((σ.1 25) ≤ 2 → (σ.1 27) = 0) from by (first | (intro z; exfalso; omega) | (intro z y; exfalso; omega) | exact fun _ => spx | (intro z y; exact spx (by omega)) | fail)), (show 4 = 0 → (σ.1 15) ≤ (σ.1 16) ∧ σ.2.1 36 (σ.1 15) ≤ (σ.1 16) from by (intro z; first | exact sux | omega)), (show 4 = 0 → (σ.1 9) ≤ (σ.1 7) from by (intro z; omega)), (show j_rr ((σ.1 5)) (σ.2.1 10) (σ.2.1 10) from by (first | exact j_rr0 _ _ | (rw [G10]; exact j_rr0 _ _) | exact q5_8 | exact q8_10 | exact q14_4 | fail)), (show j_eq (σ.2.1 36 (σ.1 15)) (σ.2.1 37) (σ.2.1 37) from CH), (show (σ.1 12) ≤ (σ.1 12) + 1 from by (first | assumption | omega | (simp only [st_s] <;> omega) | fail)), (show c_Y σ σ from by (first | exact c_Y0 _ | exact q8_12 | exact q14_10 | exact c_Y_g W4 G11 G20 G22 G25 | exact c_Y_g (by omega) (by rw [g11_τ4]) (by rw [g20_τ4]) (by rw [g22_τ4]) (by rw [g25_τ4]) | exact c_Y_g (by omega) (by rw [g11_τ7]) (by rw [g20_τ7]) (by rw [g22_τ7]) (by rw [g25_τ7]) | exact c_Y_g (by omega) (by rw [g11_τ13]) (by rw [g20_τ13]) (by rw [g22_τ13]) (by rw [g25_τ13]) | fail)), ag⟩
  ·
    refine ⟨_, K2_X7_declareConstant hT (show 0 ≤ n1 from by (first | assumption | omega | (simp only [st_s] <;> omega) | fail)) (show 0 ≤ n2 from by (first | assumption | omega | (simp only [st_s] <;> omega) | fail)) (show n1 + n2 ≤ 60000 from by (first | assumption | omega | (simp only [st_s] <;> omega) | fail)) (show ¬ σ.1 66 = 0 from by (first | assumption | omega | (simp only [st_s] <;> omega) | fail)) (show (σ.1 36) ≤ 1000 from by (first | assumption | omega | (simp only [st_s] <;> omega) | fail)) (show J_ht (σ.1 3) (σ.2.1 2) (σ.2.1 3) (σ.2.1 5) (σ.2.1 6) from HT) (show J_mn (σ.1 3) (σ.1 5) ((σ.1 7) + 1) (σ.2.1 4) from MN) (show J_vs (σ.1 8) (σ.1 5) (σ.2.1 20) from VS) (show J_vs (σ.1 6) (σ.1 5) (σ.2.1 15) from TX) (show J_rks (σ.1 5) (σ.1 4) (σ.2.1 10) (σ.2.1 11) from RKS) (show J_ff (σ.1 5) (σ.1 7) (σ.2.1 9) (σ.2.1 13) (σ.2.1 14) (σ.2.1 15) from FF) (show J_nl (σ.1 3) (σ.2.1 2) (σ.2.1 3) (σ.2.1 4) from NL), ?_⟩
    intro x6 τ7 r_x6 hn_τ7 hf_τ7 hq
    obtain ⟨hT, q5_1, q5_2, q5_3, q5_4, q5_5, q5_6, q5_7, q5_8, q5_9, q5_10, q5_11⟩ := hq
    replace q5_1 : 0 ≤ x6 ∧ x6 ≤ 19 := q5_1
    replace q5_2 : J_ht (τ7.1 3) (τ7.2.1 2) (τ7.2.1 3) (τ7.2.1 5) (τ7.2.1 6) := q5_2
    replace q5_3 : J_mn (τ7.1 3) (τ7.1 5) ((τ7.1 7) + 1) (τ7.2.1 4) := q5_3
    replace q5_4 : J_vs (τ7.1 8) (τ7.1 5) (τ7.2.1 20) := q5_4
    replace q5_5 : J_vs (τ7.1 6) (τ7.1 5) (τ7.2.1 15) := q5_5
    replace q5_6 : J_rks (τ7.1 5) (τ7.1 4) (τ7.2.1 10) (τ7.2.1 11) := q5_6
    replace q5_7 : J_ff (τ7.1 5) (τ7.1 7) (τ7.2.1 9) (τ7.2.1 13) (τ7.2.1 14) (τ7.2.1 15) := q5_7
    replace q5_8 : j_rr ((σ.1 5)) (σ.2.1 10) (τ7.2.1 10) := q5_8
    replace q5_9 : x6 = 0 → (τ7.1 36) = (σ.1 36) + 1 ∧ (τ7.1 5) = (σ.1 5) + 1 := q5_9
    replace q5_10 : J_nl (τ7.1 3) (τ7.2.1 2) (τ7.2.1 3) (τ7.2.1 4) := q5_10
    replace q5_11 : c_ag σ τ7 := q5_11
    replace ag : c_ag σ τ7 := ag_t ag q5_11 rfl
    have w4_τ7 : τ7.1 4 = σ.1 4 := hf_τ7.1 4 (by decide)
    have w6_τ7 : τ7.1 6 = σ.1 6 := hf_τ7.1 6 (by decide)
    have w7_τ7 : τ7.1 7 = σ.1 7 := hf_τ7.1 7 (by decide)
    have w8_τ7 : τ7.1 8 = σ.1 8 := hf_τ7.1 8 (by decide)
    have w9_τ7 : τ7.1 9 = σ.1 9 := hf_τ7.1 9 (by decide)
    have w10_τ7 : τ7.1 10 = σ.1 10 := hf_τ7.1 10 (by decide)
    have w11_τ7 : τ7.1 11 = σ.1 11 := hf_τ7.1 11 (by decide)
    have w12_τ7 : τ7.1 12 = σ.1 12 := hf_τ7.1 12 (by decide)
    have w13_τ7 : τ7.1 13 = σ.1 13 := hf_τ7.1 13 (by decide)
    have w14_τ7 : τ7.1 14 = σ.1 14 := hf_τ7.1 14 (by decide)
    have w15_τ7 : τ7.1 15 = σ.1 15 := hf_τ7.1 15 (by decide)
    have w16_τ7 : τ7.1 16 = σ.1 16 := hf_τ7.1 16 (by decide)
    have w21_τ7 : τ7.1 21 = σ.1 21 := hf_τ7.1 21 (by decide)
    have w22_τ7 : τ7.1 22 = σ.1 22 := hf_τ7.1 22 (by decide)
    have w23_τ7 : τ7.1 23 = σ.1 23 := hf_τ7.1 23 (by decide)
    have w24_τ7 : τ7.1 24 = σ.1 24 := hf_τ7.1 24 (by decide)
    have w25_τ7 : τ7.1 25 = σ.1 25 := hf_τ7.1 25 (by decide)
    have w26_τ7 : τ7.1 26 = σ.1 26 := hf_τ7.1 26 (by decide)
    have w27_τ7 : τ7.1 27 = σ.1 27 := hf_τ7.1 27 (by decide)
    have w35_τ7 : τ7.1 35 = σ.1 35 := hf_τ7.1 35 (by decide)
    have w37_τ7 : τ7.1 37 = σ.1 37 := hf_τ7.1 37 (by decide)
    have w38_τ7 : τ7.1 38 = σ.1 38 := hf_τ7.1 38 (by decide)
    have w66_τ7 : τ7.1 66 = σ.1 66 := hf_τ7.1 66 (by decide)
    have g11_τ7 : τ7.2.1 11 = σ.2.1 11 := hf_τ7.2.1 11 (by decide)
    have g13_τ7 : τ7.2.1 13 = σ.2.1 13 := hf_τ7.2.1 13 (by decide)
    have g14_τ7 : τ7.2.1 14 = σ.2.1 14 := hf_τ7.2.1 14 (by decide)
    have g15_τ7 : τ7.2.1 15 = σ.2.1 15 := hf_τ7.2.1 15 (by decide)
    have g16_τ7 : τ7.2.1 16 = σ.2.1 16 := hf_τ7.2.1 16 (by decide)
    have g18_τ7 : τ7.2.1 18 = σ.2.1 18 := hf_τ7.2.1 18 (by decide)
    have g19_τ7 : τ7.2.1 19 = σ.2.1 19 := hf_τ7.2.1 19 (by decide)
    have g20_τ7 : τ7.2.1 20 = σ.2.1 20 := hf_τ7.2.1 20 (by decide)
    have g22_τ7 : τ7.2.1 22 = σ.2.1 22 := hf_τ7.2.1 22 (by decide)
    have g23_τ7 : τ7.2.1 23 = σ.2.1 23 := hf_τ7.2.1 23 (by decide)
    have g24_τ7 : τ7.2.1 24 = σ.2.1 24 := hf_τ7.2.1 24 (by decide)
    have g25_τ7 : τ7.2.1 25 = σ.2.1 25 := hf_τ7.2.1 25 (by decide)
    have g26_τ7 : τ7.2.1 26 = σ.2.1 26 := hf_τ7.2.1 26 (by decide)
    have g27_τ7 : τ7.2.1 27 = σ.2.1 27 := hf_τ7.2.1 27 (by decide)
    have g28_τ7 : τ7.2.1 28 = σ.2.1 28 := hf_τ7.2.1 28 (by decide)
    have g29_τ7 : τ7.2.1 29 = σ.2.1 29 := hf_τ7.2.1 29 (by decide)
    have g30_τ7 : τ7.2.1 30 = σ.2.1 30 := hf_τ7.2.1 30 (by decide)
    have g31_τ7 : τ7.2.1 31 = σ.2.1 31 := hf_τ7.2.1 31 (by decide)
    have g32_τ7 : τ7.2.1 32 = σ.2.1 32 := hf_τ7.2.1 32 (by decide)
    have g33_τ7 : τ7.2.1 33 = σ.2.1 33 := hf_τ7.2.1 33 (by decide)
    have g34_τ7 : τ7.2.1 34 = σ.2.1 34 := hf_τ7.2.1 34 (by decide)
    have g35_τ7 : τ7.2.1 35 = σ.2.1 35 := hf_τ7.2.1 35 (by decide)
    have g36_τ7 : τ7.2.1 36 = σ.2.1 36 := hf_τ7.2.1 36 (by decide)
    have g37_τ7 : τ7.2.1 37 = σ.2.1 37 := hf_τ7.2.1 37 (by decide)
    have g44_τ7 : τ7.2.1 44 = σ.2.1 44 := hf_τ7.2.1 44 (by decide)
    have g45_τ7 : τ7.2.1 45 = σ.2.1 45 := hf_τ7.2.1 45 (by decide)
    have g49_τ7 : τ7.2.1 49 = σ.2.1 49 := hf_τ7.2.1 49 (by decide)
    have g51_τ7 : τ7.2.1 51 = σ.2.1 51 := hf_τ7.2.1 51 (by decide)
    have g54_τ7 : τ7.2.1 54 = σ.2.1 54 := hf_τ7.2.1 54 (by decide)
    have W7 : τ7.1 7 = σ.1 7 := by omega
    have W9 : τ7.1 9 = σ.1 9 := by omega
    have W11 : τ7.1 11 = σ.1 11 := by omega
    have W12 : τ7.1 12 = σ.1 12 := by omega
    have W13 : τ7.1 13 = σ.1 13 := by omega
    have W14 : τ7.1 14 = σ.1 14 := by omega
    have W15 : τ7.1 15 = σ.1 15 := by omega
    have W16 : τ7.1 16 = σ.1 16 := by omega
    have W21 : τ7.1 21 = σ.1 21 := by omega
    have W22 : τ7.1 22 = σ.1 22 := by omega
    have W23 : τ7.1 23 = σ.1 23 := by omega
    have W24 : τ7.1 24 = σ.1 24 := by omega
    have W25 : τ7.1 25 = σ.1 25 := by omega
    have W26 : τ7.1 26 = σ.1 26 := by omega
    have W27 : τ7.1 27 = σ.1 27 := by omega
    have W37 : τ7.1 37 = σ.1 37 := by omega
    have W38 : τ7.1 38 = σ.1 38 := by omega
    have W66 : τ7.1 66 = σ.1 66 := by omega
    have G13 : τ7.2.1 13 = σ.2.1 13 := (g13_τ7).trans G13
    have G19 : τ7.2.1 19 = σ.2.1 19 := (g19_τ7).trans G19
    have G22 : τ7.2.1 22 = σ.2.1 22 := (g22_τ7).trans G22
    have G25 : τ7.2.1 25 = σ.2.1 25 := (g25_τ7).trans G25
    have G26 : τ7.2.1 26 = σ.2.1 26 := (g26_τ7).trans G26
    have G27 : τ7.2.1 27 = σ.2.1 27 := (g27_τ7).trans G27
    have G28 : τ7.2.1 28 = σ.2.1 28 := (g28_τ7).trans G28
    have G29 : τ7.2.1 29 = σ.2.1 29 := (g29_τ7).trans G29
    have G30 : τ7.2.1 30 = σ.2.1 30 := (g30_τ7).trans G30
    have G31 : τ7.2.1 31 = σ.2.1 31 := (g31_τ7).trans G31
    have G32 : τ7.2.1 32 = σ.2.1 32 := (g32_τ7).trans G32
    have G33 : τ7.2.1 33 = σ.2.1 33 := (g33_τ7).trans G33
    have G34 : τ7.2.1 34 = σ.2.1 34 := (g34_τ7).trans G34
    have G35 : τ7.2.1 35 = σ.2.1 35 := (g35_τ7).trans G35
    have G36 : τ7.2.1 36 = σ.2.1 36 := (g36_τ7).trans G36
    have G37 : τ7.2.1 37 = σ.2.1 37 := (g37_τ7).trans G37
    have G44 : τ7.2.1 44 = σ.2.1 44 := (g44_τ7).trans G44
    have G45 : τ7.2.1 45 = σ.2.1 45 := (g45_τ7).trans G45
    have G49 : τ7.2.1 49 = σ.2.1 49 := (g49_τ7).trans G49
    have G51 : τ7.2.1 51 = σ.2.1 51 := (g51_τ7).trans G51
    have y14_7_τ7 : τ7.2.1 14 (τ7.1 7) = (σ.2.1 14) (σ.1 7) := by rw [g14_τ7, w7_τ7]
    have y36_15_τ7 : τ7.2.1 36 (τ7.1 15) = (σ.2.1 36) (σ.1 15) := by rw [g36_τ7, w15_τ7]
    have HT : J_ht (τ7.1 3) (τ7.2.1 2) (τ7.2.1 3) (τ7.2.1 5) (τ7.2.1 6) := q5_2
    have NL : J_nl (τ7.1 3) (τ7.2.1 2) (τ7.2.1 3) (τ7.2.1 4) := q5_10
    have MN : J_mn (τ7.1 3) (τ7.1 5) ((τ7.1 7) + 1) (τ7.2.1 4) := q5_3
    have VA : J_va (τ7.1 8) 1000 (τ7.2.1 18) (τ7.2.1 20) := by rw [show (J_va (τ7.1 8) 1000 (τ7.2.1 18) (τ7.2.1 20)) = (J_va (σ.1 8) 1000 (σ.2.1 18) (σ.2.1 20)) from by rw [w8_τ7, g18_τ7, g20_τ7]]; exact VA
    have SC : J_sc (τ7.1 7) (τ7.1 9) (τ7.2.1 13) (τ7.2.1 14) (τ7.2.1 15) (τ7.2.1 16) (τ7.2.1 22) (τ7.2.1 19) := by rw [show (J_sc (τ7.1 7) (τ7.1 9) (τ7.2.1 13) (τ7.2.1 14) (τ7.2.1 15) (τ7.2.1 16) (τ7.2.1 22) (τ7.2.1 19)) = (J_sc (σ.1 7) (σ.1 9) (σ.2.1 13) (σ.2.1 14) (σ.2.1 15) (σ.2.1 16) (σ.2.1 22) (σ.2.1 19)) from by rw [w7_τ7, w9_τ7, g13_τ7, g14_τ7, g15_τ7, g16_τ7, g19_τ7, g22_τ7]]; exact SC
    have MK : J_mk (τ7.1 11) (τ7.1 8) (τ7.1 9) (τ7.1 10) (τ7.2.1 25) := by rw [show (J_mk (τ7.1 11) (τ7.1 8) (τ7.1 9) (τ7.1 10) (τ7.2.1 25)) = (J_mk (σ.1 11) (σ.1 8) (σ.1 9) (σ.1 10) (σ.2.1 25)) from by rw [w8_τ7, w9_τ7, w10_τ7, w11_τ7, g25_τ7]]; exact MK
    have FF : J_ff (τ7.1 5) (τ7.1 7) (τ7.2.1 9) (τ7.2.1 13) (τ7.2.1 14) (τ7.2.1 15) := q5_7
    have MT : ∀ s : Int, τ7.2.1 26 s ≤ (τ7.1 12) := by rw [show (∀ s : Int, τ7.2.1 26 s ≤ (τ7.1 12)) = (∀ s : Int, σ.2.1 26 s ≤ (σ.1 12)) from by rw [w12_τ7, g26_τ7]]; exact MT
    have VS : J_vs (τ7.1 8) (τ7.1 5) (τ7.2.1 20) := q5_4
    have TX : J_vs (τ7.1 6) (τ7.1 5) (τ7.2.1 15) := q5_5
    have RKS : J_rks (τ7.1 5) (τ7.1 4) (τ7.2.1 10) (τ7.2.1 11) := q5_6
    have BP : J_bp (τ7.2.1 44) (τ7.2.1 45) := by rw [show (J_bp (τ7.2.1 44) (τ7.2.1 45)) = (J_bp (σ.2.1 44) (σ.2.1 45)) from by rw [g44_τ7, g45_τ7]]; exact BP
    have CH : j_eq (σ.2.1 36 (σ.1 15)) (σ.2.1 37) (τ7.2.1 37) := by rw [show (j_eq (σ.2.1 36 (σ.1 15)) (σ.2.1 37) (τ7.2.1 37)) = (j_eq (σ.2.1 36 (σ.1 15)) (σ.2.1 37) (σ.2.1 37)) from by rw [g37_τ7]]; exact CH
    have A2 : ∀ j, 0 ≤ τ7.2.1 2 j ∧ τ7.2.1 2 j ≤ 65535 := fun j => hT.2 2 j
    have A3 : ∀ j, 0 ≤ τ7.2.1 3 j ∧ τ7.2.1 3 j ≤ 30000 := fun j => hT.2 3 j
    have A4 : ∀ j, (-1000) ≤ τ7.2.1 4 j ∧ τ7.2.1 4 j ≤ 1499 := fun j => hT.2 4 j
    have A5 : ∀ j, 0 ≤ τ7.2.1 5 j ∧ τ7.2.1 5 j ≤ 2500 := fun j => hT.2 5 j
    have A6 : ∀ j, 0 ≤ τ7.2.1 6 j ∧ τ7.2.1 6 j ≤ 2500 := fun j => hT.2 6 j
    have A8 : ∀ j, 0 ≤ τ7.2.1 8 j ∧ τ7.2.1 8 j ≤ 1 := fun j => hT.2 8 j
    have A9 : ∀ j, (-1) ≤ τ7.2.1 9 j ∧ τ7.2.1 9 j ≤ 1499 := fun j => hT.2 9 j
    have A10 : ∀ j, (-1) ≤ τ7.2.1 10 j ∧ τ7.2.1 10 j ≤ 99 := fun j => hT.2 10 j
    have A11 : ∀ j, 0 ≤ τ7.2.1 11 j ∧ τ7.2.1 11 j ≤ 999 := fun j => hT.2 11 j
    have A13 : ∀ j, 0 ≤ τ7.2.1 13 j ∧ τ7.2.1 13 j ≤ 4 := fun j => hT.2 13 j
    have A14 : ∀ j, 0 ≤ τ7.2.1 14 j ∧ τ7.2.1 14 j ≤ 30000 := fun j => hT.2 14 j
    have A15 : ∀ j, 0 ≤ τ7.2.1 15 j ∧ τ7.2.1 15 j ≤ 999 := fun j => hT.2 15 j
    have A16 : ∀ j, (-1) ≤ τ7.2.1 16 j ∧ τ7.2.1 16 j ≤ 1499 := fun j => hT.2 16 j
    have A18 : ∀ j, 0 ≤ τ7.2.1 18 j ∧ τ7.2.1 18 j ≤ 1 := fun j => hT.2 18 j
    have A19 : ∀ j, (-1) ≤ τ7.2.1 19 j ∧ τ7.2.1 19 j ≤ 1499 := fun j => hT.2 19 j
    have A20 : ∀ j, 0 ≤ τ7.2.1 20 j ∧ τ7.2.1 20 j ≤ 999 := fun j => hT.2 20 j
    have A22 : ∀ j, 0 ≤ τ7.2.1 22 j ∧ τ7.2.1 22 j ≤ 1499 := fun j => hT.2 22 j
    have A23 : ∀ j, 0 ≤ τ7.2.1 23 j ∧ τ7.2.1 23 j ≤ 999 := fun j => hT.2 23 j
    have A24 : ∀ j, 0 ≤ τ7.2.1 24 j ∧ τ7.2.1 24 j ≤ 999 := fun j => hT.2 24 j
    have A26 : ∀ j, (-2147483648) ≤ τ7.2.1 26 j ∧ τ7.2.1 26 j ≤ 2147483647 := fun j => hT.2 26 j
    have A27 : ∀ j, 0 ≤ τ7.2.1 27 j ∧ τ7.2.1 27 j ≤ 90000 := fun j => hT.2 27 j
    have A28 : ∀ j, 0 ≤ τ7.2.1 28 j ∧ τ7.2.1 28 j ≤ 60 := fun j => hT.2 28 j
    have A29 : ∀ j, 0 ≤ τ7.2.1 29 j ∧ τ7.2.1 29 j ≤ 1499 := fun j => hT.2 29 j
    have A30 : ∀ j, 0 ≤ τ7.2.1 30 j ∧ τ7.2.1 30 j ≤ 20000 := fun j => hT.2 30 j
    have A31 : ∀ j, 0 ≤ τ7.2.1 31 j ∧ τ7.2.1 31 j ≤ 20000 := fun j => hT.2 31 j
    have A32 : ∀ j, 0 ≤ τ7.2.1 32 j ∧ τ7.2.1 32 j ≤ 999999 := fun j => hT.2 32 j
    have A33 : ∀ j, 0 ≤ τ7.2.1 33 j ∧ τ7.2.1 33 j ≤ 20000 := fun j => hT.2 33 j
    have A34 : ∀ j, 0 ≤ τ7.2.1 34 j ∧ τ7.2.1 34 j ≤ 20000 := fun j => hT.2 34 j
    have A35 : ∀ j, 0 ≤ τ7.2.1 35 j ∧ τ7.2.1 35 j ≤ 1499 := fun j => hT.2 35 j
    have A36 : ∀ j, 0 ≤ τ7.2.1 36 j ∧ τ7.2.1 36 j ≤ 20000 := fun j => hT.2 36 j
    have A37 : ∀ j, 0 ≤ τ7.2.1 37 j ∧ τ7.2.1 37 j ≤ 19999 := fun j => hT.2 37 j
    have A44 : ∀ j, 0 ≤ τ7.2.1 44 j ∧ τ7.2.1 44 j ≤ 42000 := fun j => hT.2 44 j
    have A45 : ∀ j, 0 ≤ τ7.2.1 45 j ∧ τ7.2.1 45 j ≤ 1000 := fun j => hT.2 45 j
    have A49 : ∀ j, (-300) ≤ τ7.2.1 49 j ∧ τ7.2.1 49 j ≤ 67035 := fun j => hT.2 49 j
    have A51 : ∀ j, 0 ≤ τ7.2.1 51 j ∧ τ7.2.1 51 j ≤ 1499 := fun j => hT.2 51 j
    have A54 : ∀ j, 0 ≤ τ7.2.1 54 j ∧ τ7.2.1 54 j ≤ 999 := fun j => hT.2 54 j
    have v3 : 0 ≤ τ7.1 3 ∧ τ7.1 3 ≤ 2500 := hT.1 3
    have v4 : 0 ≤ τ7.1 4 ∧ τ7.1 4 ≤ 100 := hT.1 4
    have v5 : 0 ≤ τ7.1 5 ∧ τ7.1 5 ≤ 1000 := hT.1 5
    have v6 : 0 ≤ τ7.1 6 ∧ τ7.1 6 ≤ 30000 := hT.1 6
    have v7 : 0 ≤ τ7.1 7 ∧ τ7.1 7 ≤ 1500 := hT.1 7
    have v8 : 0 ≤ τ7.1 8 ∧ τ7.1 8 ≤ 1000 := hT.1 8
    have v9 : 0 ≤ τ7.1 9 ∧ τ7.1 9 ≤ 1500 := hT.1 9
    have v10 : 0 ≤ τ7.1 10 ∧ τ7.1 10 ≤ 1000 := hT.1 10
    have v11 : 0 ≤ τ7.1 11 ∧ τ7.1 11 ≤ 50 := hT.1 11
    have v12 : (-2147483648) ≤ τ7.1 12 ∧ τ7.1 12 ≤ 2147483647 := hT.1 12
    have v13 : 0 ≤ τ7.1 13 ∧ τ7.1 13 ≤ 90000 := hT.1 13
    have v14 : 0 ≤ τ7.1 14 ∧ τ7.1 14 ≤ 20000 := hT.1 14
    have v15 : 0 ≤ τ7.1 15 ∧ τ7.1 15 ≤ 20000 := hT.1 15
    have v16 : 0 ≤ τ7.1 16 ∧ τ7.1 16 ≤ 20000 := hT.1 16
    have v21 : 0 ≤ τ7.1 21 ∧ τ7.1 21 ≤ 20000 := hT.1 21
    have v22 : 0 ≤ τ7.1 22 ∧ τ7.1 22 ≤ 300 := hT.1 22
    have v23 : 0 ≤ τ7.1 23 ∧ τ7.1 23 ≤ 300 := hT.1 23
    have v24 : 0 ≤ τ7.1 24 ∧ τ7.1 24 ≤ 1499 := hT.1 24
    have v25 : 0 ≤ τ7.1 25 ∧ τ7.1 25 ≤ 3 := hT.1 25
    have v26 : 0 ≤ τ7.1 26 ∧ τ7.1 26 ≤ 5000010 := hT.1 26
    have v27 : 0 ≤ τ7.1 27 ∧ τ7.1 27 ≤ 1 := hT.1 27
    have v35 : 0 ≤ τ7.1 35 ∧ τ7.1 35 ≤ 7 := hT.1 35
    have v36 : 0 ≤ τ7.1 36 ∧ τ7.1 36 ≤ 1001 := hT.1 36
    have v37 : 0 ≤ τ7.1 37 ∧ τ7.1 37 ≤ 4 := hT.1 37
    have v38 : (-1) ≤ τ7.1 38 ∧ τ7.1 38 ≤ 999 := hT.1 38
    have v66 : 0 ≤ τ7.1 66 ∧ τ7.1 66 ≤ 1 := hT.1 66
    have a14_7 : 0 ≤ τ7.2.1 14 (τ7.1 7) ∧ τ7.2.1 14 (τ7.1 7) ≤ 30000 := hT.2 14 _
    have a36_15 : 0 ≤ τ7.2.1 36 (τ7.1 15) ∧ τ7.2.1 36 (τ7.1 15) ≤ 20000 := hT.2 36 _
    have av3 : σ.1 3 ≤ τ7.1 3 := ag.1 3 (by decide)
    have av5 : σ.1 5 ≤ τ7.1 5 := ag.1 5 (by decide)
    have av6 : σ.1 6 ≤ τ7.1 6 := ag.1 6 (by decide)
    have a14 := ag_k ag 14 7 1 (by decide) (σ.1 7) (by omega)
    exact ⟨hT, (show 0 ≤ x6 ∧ x6 ≤ 19 from by (first | assumption | omega | (simp only [st_s] <;> omega) | fail)), (show J_ht (τ7.1 3) (τ7.2.1 2) (τ7.2.1 3) (τ7.2.1 5) (τ7.2.1 6) from HT), (show J_mn (τ7.1 3) (τ7.1 5) ((τ7.1 7) + 1) (τ7.2.1 4) from MN), (show J_rks (τ7.1 5) (τ7.1 4) (τ7.2.1 10) (τ7.2.1 11) from RKS), (show J_vs (τ7.1 8) (τ7.1 5) (τ7.2.1 20) from VS), (show J_vs (τ7.1 6) (τ7.1 5) (τ7.2.1 15) from TX), (show J_va (τ7.1 8) 1000 (τ7.2.1 18) (τ7.2.1 20) from VA), (show J_mk (τ7.1 11) (τ7.1 8) (τ7.1 9) (τ7.1 10) (τ7.2.1 25) from MK), (show J_sc (τ7.1 7) (τ7.1 9) (τ7.2.1 13) (τ7.2.1 14) (τ7.2.1 15) (τ7.2.1 16) (τ7.2.1 22) (τ7.2.1 19) from SC), (show J_ff (τ7.1 5) (τ7.1 7) (τ7.2.1 9) (τ7.2.1 13) (τ7.2.1 14) (τ7.2.1 15) from FF), (show ∀ s : Int, τ7.2.1 26 s ≤ (τ7.1 12) from MT), (show J_all (τ7.1 7) (τ7.1 6) (τ7.1 13) (τ7.1 14) (τ7.1 15) (τ7.2.1 13) (τ7.2.1 14) (τ7.2.1 15) (τ7.2.1 16) (τ7.2.1 10) (τ7.2.1 27) (τ7.2.1 28) (τ7.2.1 29) (τ7.2.1 30) (τ7.2.1 31) (τ7.2.1 32) (τ7.2.1 33) (τ7.2.1 34) (τ7.2.1 35) (τ7.2.1 36) (τ7.2.1 37) from by (first | exact CJ | exact c_J_ag CJ_0 hT0 ag (by omega) (first | exact j_rr0 _ _ | (rw [G10]; exact j_rr0 _ _) | exact q5_8 | exact q8_10 | exact q14_4) TX_0 CH (by omega) | fail)), (show J_bp (τ7.2.1 44) (τ7.2.1 45) from BP), (show J_nl (τ7.1 3) (τ7.2.1 2) (τ7.2.1 3) (τ7.2.1 4) from NL), (show x6 = 0 → J_rs (τ7.1 35) (τ7.1 7) (τ7.1 6) (τ7.1 36) (τ7.1 37) (τ7.1 5) (τ7.1 8) (τ7.2.1 14) from by (first | (intro z; exfalso; omega) | (intro z; have w := q2_2 z; unfold J_rs; omega) | (intro z; have w := q5_9 z; unfold J_rs; omega) | (intro z; have w := q8_11 z; unfold J_rs; omega) | (intro z; have w1 := q14_5 z; have w2 := q14_7 z; have w3 := q14_8 z; rw [show τ16.1 7 = σ.1 7 from by omega] at w1; unfold J_rs; rw [show τ16.1 7 = σ.1 7 from by omega]; omega) | (intro z; unfold J_rs; omega) | fail)), (show x6 = 0 → 5 ≤ (τ7.1 35) → 1 ≤ (τ7.1 36) → 0 ≤ τ7.2.1 10 (τ7.2.1 15 (τ7.2.1 14 (τ7.1 7))) from by (first | (intro z; exfalso; omega) | (intro z y; exfalso; omega) | (intro z y y2; exact q14_6 z) | fail)), (show x6 = 0 → (τ7.1 35) = 4 → j_in (τ7.1 36) 1000 (τ7.2.1 54) from by (first | (intro z; exfalso; omega) | (intro z y; exfalso; omega) | (intro z y; exact q11_2 z) | fail)), (show x6 = 0 → 5 ≤ (τ7.1 35) → J_ip (τ7.1 7) (τ7.1 6) (τ7.1 37) (τ7.2.1 14) (τ7.2.1 15) (τ7.2.1 16) (τ7.2.1 19) from by (first | (intro z; exfalso; omega) | (intro z y; exfalso; omega) | (intro z y; exact q14_9 z) | fail)), (show x6 = 0 → ((τ7.1 35) ≤ 5 → (τ7.1 13) ≤ 60 * (τ7.1 7)) ∧ (τ7.1 13) ≤ 60 * (τ7.1 7) + 60 from by (intro z; omega)), (show x6 = 0 → 6 ≤ (τ7.1 35) → (τ7.1 24) = (τ7.1 7) ∧ J_f (τ7.1 7) (τ7.1 13) (τ7.1 14) (τ7.2.1 13) (τ7.2.1 14) (τ7.2.1 15) (τ7.2.1 16) (τ7.2.1 27) (τ7.2.1 28) (τ7.2.1 29) (τ7.2.1 30) (τ7.2.1 31) (τ7.2.1 32) from by (first | (intro z; exfalso; omega) | (intro z y; exfalso; omega) | exact fun _ => frx | (intro z y; exact frx (by omega)) | (intro z y; have w := frx (by omega); rw [W7, W13, W14, W24, G13, G14, G15, G16, G27, G28, G29, G30, G31, G32]; exact w) | fail)), (show x6 = 0 → 6 ≤ (τ7.1 35) → J_sp (τ7.1 24) (τ7.1 21) (τ7.1 23) (τ7.1 22) (τ7.2.1 49) (τ7.2.1 51) ∧ ((τ7.1 16) + (τ7.1 21) ≤ 20000) ∧ (¬ (τ7.1 27) = 0 → 1 ≤ (τ7.1 21) ∧ 0 ≤ τ7.2.1 49 ((τ7.1 21) - 1) ∧ τ7.2.1 49 ((τ7.1 21) - 1) < 65536) ∧ ((τ7.1 26) ≤ 1000000) ∧ ((τ7.1 25) ≤ 2 → (τ7.1 27) = 0) from by (first | (intro z; exfalso; omega) | (intro z y; exfalso; omega) | exact fun _ => spx | (intro z y; exact spx (by omega)) | fail)), (show x6 = 0 → (τ7.1 15) ≤ (τ7.1 16) ∧ τ7.2.1 36 (τ7.1 15) ≤ (τ7.1 16) from by (intro z; first | exact sux | omega)), (show x6 = 0 → (τ7.1 9) ≤ (τ7.1 7) from by (intro z; omega)), (show j_rr ((σ.1 5)) (σ.2.1 10) (τ7.2.1 10) from by (first | exact j_rr0 _ _ | (rw [G10]; exact j_rr0 _ _) | exact q5_8 | exact q8_10 | exact q14_4 | fail)), (show j_eq (σ.2.1 36 (σ.1 15)) (σ.2.1 37) (τ7.2.1 37) from CH), (show (τ7.1 12) ≤ (σ.1 12) + 1 from by (first | assumption | omega | (simp only [st_s] <;> omega) | fail)), (show c_Y σ τ7 from by (first | exact c_Y0 _ | exact q8_12 | exact q14_10 | exact c_Y_g W4 G11 G20 G22 G25 | exact c_Y_g (by omega) (by rw [g11_τ4]) (by rw [g20_τ4]) (by rw [g22_τ4]) (by rw [g25_τ4]) | exact c_Y_g (by omega) (by rw [g11_τ7]) (by rw [g20_τ7]) (by rw [g22_τ7]) (by rw [g25_τ7]) | exact c_Y_g (by omega) (by rw [g11_τ13]) (by rw [g20_τ13]) (by rw [g22_τ13]) (by rw [g25_τ13]) | fail)), ag⟩
  ·
    refine ⟨_, K2_X7_declareVariable hT (show 0 ≤ n1 from by (first | assumption | omega | (simp only [st_s] <;> omega) | fail)) (show 0 ≤ n2 from by (first | assumption | omega | (simp only [st_s] <;> omega) | fail)) (show n1 + n2 ≤ 60000 from by (first | assumption | omega | (simp only [st_s] <;> omega) | fail)) (show ¬ σ.1 66 = 0 from by (first | assumption | omega | (simp only [st_s] <;> omega) | fail)) (show (σ.1 36) ≤ 1000 from by (first | assumption | omega | (simp only [st_s] <;> omega) | fail)) (show (σ.1 38) < (σ.1 5) from by (first | assumption | omega | (simp only [st_s] <;> omega) | fail)) (show J_ht (σ.1 3) (σ.2.1 2) (σ.2.1 3) (σ.2.1 5) (σ.2.1 6) from HT) (show J_mn (σ.1 3) (σ.1 5) ((σ.1 7) + 1) (σ.2.1 4) from MN) (show J_vs (σ.1 8) (σ.1 5) (σ.2.1 20) from VS) (show J_vs (σ.1 6) (σ.1 5) (σ.2.1 15) from TX) (show J_va (σ.1 8) 1000 (σ.2.1 18) (σ.2.1 20) from VA) (show J_mk (σ.1 11) (σ.1 8) (σ.1 9) (σ.1 10) (σ.2.1 25) from MK) (show J_rks (σ.1 5) (σ.1 4) (σ.2.1 10) (σ.2.1 11) from RKS) (show J_ff (σ.1 5) (σ.1 7) (σ.2.1 9) (σ.2.1 13) (σ.2.1 14) (σ.2.1 15) from FF) (show J_nl (σ.1 3) (σ.2.1 2) (σ.2.1 3) (σ.2.1 4) from NL), ?_⟩
    intro x9 τ10 r_x9 hn_τ10 hf_τ10 hq
    obtain ⟨hT, q8_1, q8_2, q8_3, q8_4, q8_5, q8_6, q8_7, q8_8, q8_9, q8_10, q8_11, q8_12, q8_13, q8_14⟩ := hq
    replace q8_1 : 0 ≤ x9 ∧ x9 ≤ 19 := q8_1
    replace q8_2 : J_ht (τ10.1 3) (τ10.2.1 2) (τ10.2.1 3) (τ10.2.1 5) (τ10.2.1 6) := q8_2
    replace q8_3 : J_mn (τ10.1 3) (τ10.1 5) ((τ10.1 7) + 1) (τ10.2.1 4) := q8_3
    replace q8_4 : J_vs (τ10.1 8) (τ10.1 5) (τ10.2.1 20) := q8_4
    replace q8_5 : J_vs (τ10.1 6) (τ10.1 5) (τ10.2.1 15) := q8_5
    replace q8_6 : J_va (τ10.1 8) 1000 (τ10.2.1 18) (τ10.2.1 20) := q8_6
    replace q8_7 : J_mk (τ10.1 11) (τ10.1 8) (τ10.1 9) (τ10.1 10) (τ10.2.1 25) := q8_7
    replace q8_8 : J_rks (τ10.1 5) (τ10.1 4) (τ10.2.1 10) (τ10.2.1 11) := q8_8
    replace q8_9 : J_ff (τ10.1 5) (τ10.1 7) (τ10.2.1 9) (τ10.2.1 13) (τ10.2.1 14) (τ10.2.1 15) := q8_9
    replace q8_10 : j_rr ((σ.1 5)) (σ.2.1 10) (τ10.2.1 10) := q8_10
    replace q8_11 : x9 = 0 → (τ10.1 36) = (σ.1 36) + 1 ∧ (τ10.1 8) = (σ.1 8) + 1 := q8_11
    replace q8_12 : c_Y σ τ10 := q8_12
    replace q8_13 : J_nl (τ10.1 3) (τ10.2.1 2) (τ10.2.1 3) (τ10.2.1 4) := q8_13
    replace q8_14 : c_ag σ τ10 := q8_14
    replace ag : c_ag σ τ10 := ag_t ag q8_14 rfl
    have w4_τ10 : τ10.1 4 = σ.1 4 := hf_τ10.1 4 (by decide)
    have w6_τ10 : τ10.1 6 = σ.1 6 := hf_τ10.1 6 (by decide)
    have w7_τ10 : τ10.1 7 = σ.1 7 := hf_τ10.1 7 (by decide)
    have w9_τ10 : τ10.1 9 = σ.1 9 := hf_τ10.1 9 (by decide)
    have w10_τ10 : τ10.1 10 = σ.1 10 := hf_τ10.1 10 (by decide)
    have w11_τ10 : τ10.1 11 = σ.1 11 := hf_τ10.1 11 (by decide)
    have w12_τ10 : τ10.1 12 = σ.1 12 := hf_τ10.1 12 (by decide)
    have w13_τ10 : τ10.1 13 = σ.1 13 := hf_τ10.1 13 (by decide)
    have w14_τ10 : τ10.1 14 = σ.1 14 := hf_τ10.1 14 (by decide)
    have w15_τ10 : τ10.1 15 = σ.1 15 := hf_τ10.1 15 (by decide)
    have w16_τ10 : τ10.1 16 = σ.1 16 := hf_τ10.1 16 (by decide)
    have w21_τ10 : τ10.1 21 = σ.1 21 := hf_τ10.1 21 (by decide)
    have w22_τ10 : τ10.1 22 = σ.1 22 := hf_τ10.1 22 (by decide)
    have w23_τ10 : τ10.1 23 = σ.1 23 := hf_τ10.1 23 (by decide)
    have w24_τ10 : τ10.1 24 = σ.1 24 := hf_τ10.1 24 (by decide)
    have w25_τ10 : τ10.1 25 = σ.1 25 := hf_τ10.1 25 (by decide)
    have w26_τ10 : τ10.1 26 = σ.1 26 := hf_τ10.1 26 (by decide)
    have w27_τ10 : τ10.1 27 = σ.1 27 := hf_τ10.1 27 (by decide)
    have w35_τ10 : τ10.1 35 = σ.1 35 := hf_τ10.1 35 (by decide)
    have w37_τ10 : τ10.1 37 = σ.1 37 := hf_τ10.1 37 (by decide)
    have w38_τ10 : τ10.1 38 = σ.1 38 := hf_τ10.1 38 (by decide)
    have w66_τ10 : τ10.1 66 = σ.1 66 := hf_τ10.1 66 (by decide)
    have g11_τ10 : τ10.2.1 11 = σ.2.1 11 := hf_τ10.2.1 11 (by decide)
    have g13_τ10 : τ10.2.1 13 = σ.2.1 13 := hf_τ10.2.1 13 (by decide)
    have g14_τ10 : τ10.2.1 14 = σ.2.1 14 := hf_τ10.2.1 14 (by decide)
    have g15_τ10 : τ10.2.1 15 = σ.2.1 15 := hf_τ10.2.1 15 (by decide)
    have g16_τ10 : τ10.2.1 16 = σ.2.1 16 := hf_τ10.2.1 16 (by decide)
    have g19_τ10 : τ10.2.1 19 = σ.2.1 19 := hf_τ10.2.1 19 (by decide)
    have g22_τ10 : τ10.2.1 22 = σ.2.1 22 := hf_τ10.2.1 22 (by decide)
    have g23_τ10 : τ10.2.1 23 = σ.2.1 23 := hf_τ10.2.1 23 (by decide)
    have g24_τ10 : τ10.2.1 24 = σ.2.1 24 := hf_τ10.2.1 24 (by decide)
    have g25_τ10 : τ10.2.1 25 = σ.2.1 25 := hf_τ10.2.1 25 (by decide)
    have g26_τ10 : τ10.2.1 26 = σ.2.1 26 := hf_τ10.2.1 26 (by decide)
    have g27_τ10 : τ10.2.1 27 = σ.2.1 27 := hf_τ10.2.1 27 (by decide)
    have g28_τ10 : τ10.2.1 28 = σ.2.1 28 := hf_τ10.2.1 28 (by decide)
    have g29_τ10 : τ10.2.1 29 = σ.2.1 29 := hf_τ10.2.1 29 (by decide)
    have g30_τ10 : τ10.2.1 30 = σ.2.1 30 := hf_τ10.2.1 30 (by decide)
    have g31_τ10 : τ10.2.1 31 = σ.2.1 31 := hf_τ10.2.1 31 (by decide)
    have g32_τ10 : τ10.2.1 32 = σ.2.1 32 := hf_τ10.2.1 32 (by decide)
    have g33_τ10 : τ10.2.1 33 = σ.2.1 33 := hf_τ10.2.1 33 (by decide)
    have g34_τ10 : τ10.2.1 34 = σ.2.1 34 := hf_τ10.2.1 34 (by decide)
    have g35_τ10 : τ10.2.1 35 = σ.2.1 35 := hf_τ10.2.1 35 (by decide)
    have g36_τ10 : τ10.2.1 36 = σ.2.1 36 := hf_τ10.2.1 36 (by decide)
    have g37_τ10 : τ10.2.1 37 = σ.2.1 37 := hf_τ10.2.1 37 (by decide)
    have g44_τ10 : τ10.2.1 44 = σ.2.1 44 := hf_τ10.2.1 44 (by decide)
    have g45_τ10 : τ10.2.1 45 = σ.2.1 45 := hf_τ10.2.1 45 (by decide)
    have g49_τ10 : τ10.2.1 49 = σ.2.1 49 := hf_τ10.2.1 49 (by decide)
    have g51_τ10 : τ10.2.1 51 = σ.2.1 51 := hf_τ10.2.1 51 (by decide)
    have g54_τ10 : τ10.2.1 54 = σ.2.1 54 := hf_τ10.2.1 54 (by decide)
    have W7 : τ10.1 7 = σ.1 7 := by omega
    have W9 : τ10.1 9 = σ.1 9 := by omega
    have W11 : τ10.1 11 = σ.1 11 := by omega
    have W12 : τ10.1 12 = σ.1 12 := by omega
    have W13 : τ10.1 13 = σ.1 13 := by omega
    have W14 : τ10.1 14 = σ.1 14 := by omega
    have W15 : τ10.1 15 = σ.1 15 := by omega
    have W16 : τ10.1 16 = σ.1 16 := by omega
    have W21 : τ10.1 21 = σ.1 21 := by omega
    have W22 : τ10.1 22 = σ.1 22 := by omega
    have W23 : τ10.1 23 = σ.1 23 := by omega
    have W24 : τ10.1 24 = σ.1 24 := by omega
    have W25 : τ10.1 25 = σ.1 25 := by omega
    have W26 : τ10.1 26 = σ.1 26 := by omega
    have W27 : τ10.1 27 = σ.1 27 := by omega
    have W37 : τ10.1 37 = σ.1 37 := by omega
    have W38 : τ10.1 38 = σ.1 38 := by omega
    have W66 : τ10.1 66 = σ.1 66 := by omega
    have G13 : τ10.2.1 13 = σ.2.1 13 := (g13_τ10).trans G13
    have G19 : τ10.2.1 19 = σ.2.1 19 := (g19_τ10).trans G19
    have G22 : τ10.2.1 22 = σ.2.1 22 := (g22_τ10).trans G22
    have G25 : τ10.2.1 25 = σ.2.1 25 := (g25_τ10).trans G25
    have G26 : τ10.2.1 26 = σ.2.1 26 := (g26_τ10).trans G26
    have G27 : τ10.2.1 27 = σ.2.1 27 := (g27_τ10).trans G27
    have G28 : τ10.2.1 28 = σ.2.1 28 := (g28_τ10).trans G28
    have G29 : τ10.2.1 29 = σ.2.1 29 := (g29_τ10).trans G29
    have G30 : τ10.2.1 30 = σ.2.1 30 := (g30_τ10).trans G30
    have G31 : τ10.2.1 31 = σ.2.1 31 := (g31_τ10).trans G31
    have G32 : τ10.2.1 32 = σ.2.1 32 := (g32_τ10).trans G32
    have G33 : τ10.2.1 33 = σ.2.1 33 := (g33_τ10).trans G33
    have G34 : τ10.2.1 34 = σ.2.1 34 := (g34_τ10).trans G34
    have G35 : τ10.2.1 35 = σ.2.1 35 := (g35_τ10).trans G35
    have G36 : τ10.2.1 36 = σ.2.1 36 := (g36_τ10).trans G36
    have G37 : τ10.2.1 37 = σ.2.1 37 := (g37_τ10).trans G37
    have G44 : τ10.2.1 44 = σ.2.1 44 := (g44_τ10).trans G44
    have G45 : τ10.2.1 45 = σ.2.1 45 := (g45_τ10).trans G45
    have G49 : τ10.2.1 49 = σ.2.1 49 := (g49_τ10).trans G49
    have G51 : τ10.2.1 51 = σ.2.1 51 := (g51_τ10).trans G51
    have y14_7_τ10 : τ10.2.1 14 (τ10.1 7) = (σ.2.1 14) (σ.1 7) := by rw [g14_τ10, w7_τ10]
    have y36_15_τ10 : τ10.2.1 36 (τ10.1 15) = (σ.2.1 36) (σ.1 15) := by rw [g36_τ10, w15_τ10]
    have HT : J_ht (τ10.1 3) (τ10.2.1 2) (τ10.2.1 3) (τ10.2.1 5) (τ10.2.1 6) := q8_2
    have NL : J_nl (τ10.1 3) (τ10.2.1 2) (τ10.2.1 3) (τ10.2.1 4) := q8_13
    have MN : J_mn (τ10.1 3) (τ10.1 5) ((τ10.1 7) + 1) (τ10.2.1 4) := q8_3
    have VA : J_va (τ10.1 8) 1000 (τ10.2.1 18) (τ10.2.1 20) := q8_6
    have SC : J_sc (τ10.1 7) (τ10.1 9) (τ10.2.1 13) (τ10.2.1 14) (τ10.2.1 15) (τ10.2.1 16) (τ10.2.1 22) (τ10.2.1 19) := by rw [show (J_sc (τ10.1 7) (τ10.1 9) (τ10.2.1 13) (τ10.2.1 14) (τ10.2.1 15) (τ10.2.1 16) (τ10.2.1 22) (τ10.2.1 19)) = (J_sc (σ.1 7) (σ.1 9) (σ.2.1 13) (σ.2.1 14) (σ.2.1 15) (σ.2.1 16) (σ.2.1 22) (σ.2.1 19)) from by rw [w7_τ10, w9_τ10, g13_τ10, g14_τ10, g15_τ10, g16_τ10, g19_τ10, g22_τ10]]; exact SC
    have MK : J_mk (τ10.1 11) (τ10.1 8) (τ10.1 9) (τ10.1 10) (τ10.2.1 25) := q8_7
    have FF : J_ff (τ10.1 5) (τ10.1 7) (τ10.2.1 9) (τ10.2.1 13) (τ10.2.1 14) (τ10.2.1 15) := q8_9
    have MT : ∀ s : Int, τ10.2.1 26 s ≤ (τ10.1 12) := by rw [show (∀ s : Int, τ10.2.1 26 s ≤ (τ10.1 12)) = (∀ s : Int, σ.2.1 26 s ≤ (σ.1 12)) from by rw [w12_τ10, g26_τ10]]; exact MT
    have VS : J_vs (τ10.1 8) (τ10.1 5) (τ10.2.1 20) := q8_4
    have TX : J_vs (τ10.1 6) (τ10.1 5) (τ10.2.1 15) := q8_5
    have RKS : J_rks (τ10.1 5) (τ10.1 4) (τ10.2.1 10) (τ10.2.1 11) := q8_8
    have BP : J_bp (τ10.2.1 44) (τ10.2.1 45) := by rw [show (J_bp (τ10.2.1 44) (τ10.2.1 45)) = (J_bp (σ.2.1 44) (σ.2.1 45)) from by rw [g44_τ10, g45_τ10]]; exact BP
    have CH : j_eq (σ.2.1 36 (σ.1 15)) (σ.2.1 37) (τ10.2.1 37) := by rw [show (j_eq (σ.2.1 36 (σ.1 15)) (σ.2.1 37) (τ10.2.1 37)) = (j_eq (σ.2.1 36 (σ.1 15)) (σ.2.1 37) (σ.2.1 37)) from by rw [g37_τ10]]; exact CH
    have A2 : ∀ j, 0 ≤ τ10.2.1 2 j ∧ τ10.2.1 2 j ≤ 65535 := fun j => hT.2 2 j
    have A3 : ∀ j, 0 ≤ τ10.2.1 3 j ∧ τ10.2.1 3 j ≤ 30000 := fun j => hT.2 3 j
    have A4 : ∀ j, (-1000) ≤ τ10.2.1 4 j ∧ τ10.2.1 4 j ≤ 1499 := fun j => hT.2 4 j
    have A5 : ∀ j, 0 ≤ τ10.2.1 5 j ∧ τ10.2.1 5 j ≤ 2500 := fun j => hT.2 5 j
    have A6 : ∀ j, 0 ≤ τ10.2.1 6 j ∧ τ10.2.1 6 j ≤ 2500 := fun j => hT.2 6 j
    have A8 : ∀ j, 0 ≤ τ10.2.1 8 j ∧ τ10.2.1 8 j ≤ 1 := fun j => hT.2 8 j
    have A9 : ∀ j, (-1) ≤ τ10.2.1 9 j ∧ τ10.2.1 9 j ≤ 1499 := fun j => hT.2 9 j
    have A10 : ∀ j, (-1) ≤ τ10.2.1 10 j ∧ τ10.2.1 10 j ≤ 99 := fun j => hT.2 10 j
    have A11 : ∀ j, 0 ≤ τ10.2.1 11 j ∧ τ10.2.1 11 j ≤ 999 := fun j => hT.2 11 j
    have A13 : ∀ j, 0 ≤ τ10.2.1 13 j ∧ τ10.2.1 13 j ≤ 4 := fun j => hT.2 13 j
    have A14 : ∀ j, 0 ≤ τ10.2.1 14 j ∧ τ10.2.1 14 j ≤ 30000 := fun j => hT.2 14 j
    have A15 : ∀ j, 0 ≤ τ10.2.1 15 j ∧ τ10.2.1 15 j ≤ 999 := fun j => hT.2 15 j
    have A16 : ∀ j, (-1) ≤ τ10.2.1 16 j ∧ τ10.2.1 16 j ≤ 1499 := fun j => hT.2 16 j
    have A18 : ∀ j, 0 ≤ τ10.2.1 18 j ∧ τ10.2.1 18 j ≤ 1 := fun j => hT.2 18 j
    have A19 : ∀ j, (-1) ≤ τ10.2.1 19 j ∧ τ10.2.1 19 j ≤ 1499 := fun j => hT.2 19 j
    have A20 : ∀ j, 0 ≤ τ10.2.1 20 j ∧ τ10.2.1 20 j ≤ 999 := fun j => hT.2 20 j
    have A22 : ∀ j, 0 ≤ τ10.2.1 22 j ∧ τ10.2.1 22 j ≤ 1499 := fun j => hT.2 22 j
    have A23 : ∀ j, 0 ≤ τ10.2.1 23 j ∧ τ10.2.1 23 j ≤ 999 := fun j => hT.2 23 j
    have A24 : ∀ j, 0 ≤ τ10.2.1 24 j ∧ τ10.2.1 24 j ≤ 999 := fun j => hT.2 24 j
    have A26 : ∀ j, (-2147483648) ≤ τ10.2.1 26 j ∧ τ10.2.1 26 j ≤ 2147483647 := fun j => hT.2 26 j
    have A27 : ∀ j, 0 ≤ τ10.2.1 27 j ∧ τ10.2.1 27 j ≤ 90000 := fun j => hT.2 27 j
    have A28 : ∀ j, 0 ≤ τ10.2.1 28 j ∧ τ10.2.1 28 j ≤ 60 := fun j => hT.2 28 j
    have A29 : ∀ j, 0 ≤ τ10.2.1 29 j ∧ τ10.2.1 29 j ≤ 1499 := fun j => hT.2 29 j
    have A30 : ∀ j, 0 ≤ τ10.2.1 30 j ∧ τ10.2.1 30 j ≤ 20000 := fun j => hT.2 30 j
    have A31 : ∀ j, 0 ≤ τ10.2.1 31 j ∧ τ10.2.1 31 j ≤ 20000 := fun j => hT.2 31 j
    have A32 : ∀ j, 0 ≤ τ10.2.1 32 j ∧ τ10.2.1 32 j ≤ 999999 := fun j => hT.2 32 j
    have A33 : ∀ j, 0 ≤ τ10.2.1 33 j ∧ τ10.2.1 33 j ≤ 20000 := fun j => hT.2 33 j
    have A34 : ∀ j, 0 ≤ τ10.2.1 34 j ∧ τ10.2.1 34 j ≤ 20000 := fun j => hT.2 34 j
    have A35 : ∀ j, 0 ≤ τ10.2.1 35 j ∧ τ10.2.1 35 j ≤ 1499 := fun j => hT.2 35 j
    have A36 : ∀ j, 0 ≤ τ10.2.1 36 j ∧ τ10.2.1 36 j ≤ 20000 := fun j => hT.2 36 j
    have A37 : ∀ j, 0 ≤ τ10.2.1 37 j ∧ τ10.2.1 37 j ≤ 19999 := fun j => hT.2 37 j
    have A44 : ∀ j, 0 ≤ τ10.2.1 44 j ∧ τ10.2.1 44 j ≤ 42000 := fun j => hT.2 44 j
    have A45 : ∀ j, 0 ≤ τ10.2.1 45 j ∧ τ10.2.1 45 j ≤ 1000 := fun j => hT.2 45 j
    have A49 : ∀ j, (-300) ≤ τ10.2.1 49 j ∧ τ10.2.1 49 j ≤ 67035 := fun j => hT.2 49 j
    have A51 : ∀ j, 0 ≤ τ10.2.1 51 j ∧ τ10.2.1 51 j ≤ 1499 := fun j => hT.2 51 j
    have A54 : ∀ j, 0 ≤ τ10.2.1 54 j ∧ τ10.2.1 54 j ≤ 999 := fun j => hT.2 54 j
    have v3 : 0 ≤ τ10.1 3 ∧ τ10.1 3 ≤ 2500 := hT.1 3
    have v4 : 0 ≤ τ10.1 4 ∧ τ10.1 4 ≤ 100 := hT.1 4
    have v5 : 0 ≤ τ10.1 5 ∧ τ10.1 5 ≤ 1000 := hT.1 5
    have v6 : 0 ≤ τ10.1 6 ∧ τ10.1 6 ≤ 30000 := hT.1 6
    have v7 : 0 ≤ τ10.1 7 ∧ τ10.1 7 ≤ 1500 := hT.1 7
    have v8 : 0 ≤ τ10.1 8 ∧ τ10.1 8 ≤ 1000 := hT.1 8
    have v9 : 0 ≤ τ10.1 9 ∧ τ10.1 9 ≤ 1500 := hT.1 9
    have v10 : 0 ≤ τ10.1 10 ∧ τ10.1 10 ≤ 1000 := hT.1 10
    have v11 : 0 ≤ τ10.1 11 ∧ τ10.1 11 ≤ 50 := hT.1 11
    have v12 : (-2147483648) ≤ τ10.1 12 ∧ τ10.1 12 ≤ 2147483647 := hT.1 12
    have v13 : 0 ≤ τ10.1 13 ∧ τ10.1 13 ≤ 90000 := hT.1 13
    have v14 : 0 ≤ τ10.1 14 ∧ τ10.1 14 ≤ 20000 := hT.1 14
    have v15 : 0 ≤ τ10.1 15 ∧ τ10.1 15 ≤ 20000 := hT.1 15
    have v16 : 0 ≤ τ10.1 16 ∧ τ10.1 16 ≤ 20000 := hT.1 16
    have v21 : 0 ≤ τ10.1 21 ∧ τ10.1 21 ≤ 20000 := hT.1 21
    have v22 : 0 ≤ τ10.1 22 ∧ τ10.1 22 ≤ 300 := hT.1 22
    have v23 : 0 ≤ τ10.1 23 ∧ τ10.1 23 ≤ 300 := hT.1 23
    have v24 : 0 ≤ τ10.1 24 ∧ τ10.1 24 ≤ 1499 := hT.1 24
    have v25 : 0 ≤ τ10.1 25 ∧ τ10.1 25 ≤ 3 := hT.1 25
    have v26 : 0 ≤ τ10.1 26 ∧ τ10.1 26 ≤ 5000010 := hT.1 26
    have v27 : 0 ≤ τ10.1 27 ∧ τ10.1 27 ≤ 1 := hT.1 27
    have v35 : 0 ≤ τ10.1 35 ∧ τ10.1 35 ≤ 7 := hT.1 35
    have v36 : 0 ≤ τ10.1 36 ∧ τ10.1 36 ≤ 1001 := hT.1 36
    have v37 : 0 ≤ τ10.1 37 ∧ τ10.1 37 ≤ 4 := hT.1 37
    have v38 : (-1) ≤ τ10.1 38 ∧ τ10.1 38 ≤ 999 := hT.1 38
    have v66 : 0 ≤ τ10.1 66 ∧ τ10.1 66 ≤ 1 := hT.1 66
    have a14_7 : 0 ≤ τ10.2.1 14 (τ10.1 7) ∧ τ10.2.1 14 (τ10.1 7) ≤ 30000 := hT.2 14 _
    have a36_15 : 0 ≤ τ10.2.1 36 (τ10.1 15) ∧ τ10.2.1 36 (τ10.1 15) ≤ 20000 := hT.2 36 _
    have av3 : σ.1 3 ≤ τ10.1 3 := ag.1 3 (by decide)
    have av5 : σ.1 5 ≤ τ10.1 5 := ag.1 5 (by decide)
    have av6 : σ.1 6 ≤ τ10.1 6 := ag.1 6 (by decide)
    have a14 := ag_k ag 14 7 1 (by decide) (σ.1 7) (by omega)
    exact ⟨hT, (show 0 ≤ x9 ∧ x9 ≤ 19 from by (first | assumption | omega | (simp only [st_s] <;> omega) | fail)), (show J_ht (τ10.1 3) (τ10.2.1 2) (τ10.2.1 3) (τ10.2.1 5) (τ10.2.1 6) from HT), (show J_mn (τ10.1 3) (τ10.1 5) ((τ10.1 7) + 1) (τ10.2.1 4) from MN), (show J_rks (τ10.1 5) (τ10.1 4) (τ10.2.1 10) (τ10.2.1 11) from RKS), (show J_vs (τ10.1 8) (τ10.1 5) (τ10.2.1 20) from VS), (show J_vs (τ10.1 6) (τ10.1 5) (τ10.2.1 15) from TX), (show J_va (τ10.1 8) 1000 (τ10.2.1 18) (τ10.2.1 20) from VA), (show J_mk (τ10.1 11) (τ10.1 8) (τ10.1 9) (τ10.1 10) (τ10.2.1 25) from MK), (show J_sc (τ10.1 7) (τ10.1 9) (τ10.2.1 13) (τ10.2.1 14) (τ10.2.1 15) (τ10.2.1 16) (τ10.2.1 22) (τ10.2.1 19) from SC), (show J_ff (τ10.1 5) (τ10.1 7) (τ10.2.1 9) (τ10.2.1 13) (τ10.2.1 14) (τ10.2.1 15) from FF), (show ∀ s : Int, τ10.2.1 26 s ≤ (τ10.1 12) from MT), (show J_all (τ10.1 7) (τ10.1 6) (τ10.1 13) (τ10.1 14) (τ10.1 15) (τ10.2.1 13) (τ10.2.1 14) (τ10.2.1 15) (τ10.2.1 16) (τ10.2.1 10) (τ10.2.1 27) (τ10.2.1 28) (τ10.2.1 29) (τ10.2.1 30) (τ10.2.1 31) (τ10.2.1 32) (τ10.2.1 33) (τ10.2.1 34) (τ10.2.1 35) (τ10.2.1 36) (τ10.2.1 37) from by (first | exact CJ | exact c_J_ag CJ_0 hT0 ag (by omega) (first | exact j_rr0 _ _ | (rw [G10]; exact j_rr0 _ _) | exact q5_8 | exact q8_10 | exact q14_4) TX_0 CH (by omega) | fail)), (show J_bp (τ10.2.1 44) (τ10.2.1 45) from BP), (show J_nl (τ10.1 3) (τ10.2.1 2) (τ10.2.1 3) (τ10.2.1 4) from NL), (show x9 = 0 → J_rs (τ10.1 35) (τ10.1 7) (τ10.1 6) (τ10.1 36) (τ10.1 37) (τ10.1 5) (τ10.1 8) (τ10.2.1 14) from by (first | (intro z; exfalso; omega) | (intro z; have w := q2_2 z; unfold J_rs; omega) | (intro z; have w := q5_9 z; unfold J_rs; omega) | (intro z; have w := q8_11 z; unfold J_rs; omega) | (intro z; have w1 := q14_5 z; have w2 := q14_7 z; have w3 := q14_8 z; rw [show τ16.1 7 = σ.1 7 from by omega] at w1; unfold J_rs; rw [show τ16.1 7 = σ.1 7 from by omega]; omega) | (intro z; unfold J_rs; omega) | fail)), (show x9 = 0 → 5 ≤ (τ10.1 35) → 1 ≤ (τ10.1 36) → 0 ≤ τ10.2.1 10 (τ10.2.1 15 (τ10.2.1 14 (τ10.1 7))) from by (first | (intro z; exfalso; omega) | (intro z y; exfalso; omega) | (intro z y y2; exact q14_6 z) | fail)), (show x9 = 0 → (τ10.1 35) = 4 → j_in (τ10.1 36) 1000 (τ10.2.1 54) from by (first | (intro z; exfalso; omega) | (intro z y; exfalso; omega) | (intro z y; exact q11_2 z) | fail)), (show x9 = 0 → 5 ≤ (τ10.1 35) → J_ip (τ10.1 7) (τ10.1 6) (τ10.1 37) (τ10.2.1 14) (τ10.2.1 15) (τ10.2.1 16) (τ10.2.1 19) from by (first | (intro z; exfalso; omega) | (intro z y; exfalso; omega) | (intro z y; exact q14_9 z) | fail)), (show x9 = 0 → ((τ10.1 35) ≤ 5 → (τ10.1 13) ≤ 60 * (τ10.1 7)) ∧ (τ10.1 13) ≤ 60 * (τ10.1 7) + 60 from by (intro z; omega)), (show x9 = 0 → 6 ≤ (τ10.1 35) → (τ10.1 24) = (τ10.1 7) ∧ J_f (τ10.1 7) (τ10.1 13) (τ10.1 14) (τ10.2.1 13) (τ10.2.1 14) (τ10.2.1 15) (τ10.2.1 16) (τ10.2.1 27) (τ10.2.1 28) (τ10.2.1 29) (τ10.2.1 30) (τ10.2.1 31) (τ10.2.1 32) from by (first | (intro z; exfalso; omega) | (intro z y; exfalso; omega) | exact fun _ => frx | (intro z y; exact frx (by omega)) | (intro z y; have w := frx (by omega); rw [W7, W13, W14, W24, G13, G14, G15, G16, G27, G28, G29, G30, G31, G32]; exact w) | fail)), (show x9 = 0 → 6 ≤ (τ10.1 35) → J_sp (τ10.1 24) (τ10.1 21) (τ10.1 23) (τ10.1 22) (τ10.2.1 49) (τ10.2.1 51) ∧ ((τ10.1 16) + (τ10.1 21) ≤ 20000) ∧ (¬ (τ10.1 27) = 0 → 1 ≤ (τ10.1 21) ∧ 0 ≤ τ10.2.1 49 ((τ10.1 21) - 1) ∧ τ10.2.1 49 ((τ10.1 21) - 1) < 65536) ∧ ((τ10.1 26) ≤ 1000000) ∧ ((τ10.1 25) ≤ 2 → (τ10.1 27) = 0) from by (first | (intro z; exfalso; omega) | (intro z y; exfalso; omega) | exact fun _ => spx | (intro z y; exact spx (by omega)) | fail)), (show x9 = 0 → (τ10.1 15) ≤ (τ10.1 16) ∧ τ10.2.1 36 (τ10.1 15) ≤ (τ10.1 16) from by (intro z; first | exact sux | omega)), (show x9 = 0 → (τ10.1 9) ≤ (τ10.1 7) from by (intro z; omega)), (show j_rr ((σ.1 5)) (σ.2.1 10) (τ10.2.1 10) from by (first | exact j_rr0 _ _ | (rw [G10]; exact j_rr0 _ _) | exact q5_8 | exact q8_10 | exact q14_4 | fail)), (show j_eq (σ.2.1 36 (σ.1 15)) (σ.2.1 37) (τ10.2.1 37) from CH), (show (τ10.1 12) ≤ (σ.1 12) + 1 from by (first | assumption | omega | (simp only [st_s] <;> omega) | fail)), (show c_Y σ τ10 from by (first | exact c_Y0 _ | exact q8_12 | exact q14_10 | exact c_Y_g W4 G11 G20 G22 G25 | exact c_Y_g (by omega) (by rw [g11_τ4]) (by rw [g20_τ4]) (by rw [g22_τ4]) (by rw [g25_τ4]) | exact c_Y_g (by omega) (by rw [g11_τ7]) (by rw [g20_τ7]) (by rw [g22_τ7]) (by rw [g25_τ7]) | exact c_Y_g (by omega) (by rw [g11_τ13]) (by rw [g20_τ13]) (by rw [g22_τ13]) (by rw [g25_τ13]) | fail)), ag⟩
  ·
    have djj := dj c1
    refine ⟨_, K2_X7_takeApart hT (show -1 ≤ (σ.1 38) from by (first | assumption | omega | (simp only [st_s] <;> omega) | fail)) (show (σ.1 38) < 1000 from by (first | assumption | omega | (simp only [st_s] <;> omega) | fail)) (show j_in (σ.1 36) 1000 (σ.2.1 54) from by (first | assumption | omega | (simp only [st_s] <;> omega) | fail)) (show J_mk (σ.1 11) (σ.1 8) (σ.1 9) (σ.1 10) (σ.2.1 25) from MK), ?_⟩
    intro x12 τ13 r_x12 hn_τ13 hf_τ13 hq
    obtain ⟨hT, q11_1, q11_2, q11_3⟩ := hq
    replace q11_1 : 0 ≤ x12 ∧ x12 ≤ 19 := q11_1
    replace q11_2 : x12 = 0 → j_in (τ13.1 36) 1000 (τ13.2.1 54) := q11_2
    replace q11_3 : J_mk (τ13.1 11) (τ13.1 8) (τ13.1 9) (τ13.1 10) (τ13.2.1 25) := q11_3
    replace ag : c_ag σ τ13 := ag_r ag hf_τ13 rfl rfl
    have w3_τ13 : τ13.1 3 = σ.1 3 := hf_τ13.1 3 (by decide)
    have w4_τ13 : τ13.1 4 = σ.1 4 := hf_τ13.1 4 (by decide)
    have w5_τ13 : τ13.1 5 = σ.1 5 := hf_τ13.1 5 (by decide)
    have w6_τ13 : τ13.1 6 = σ.1 6 := hf_τ13.1 6 (by decide)
    have w7_τ13 : τ13.1 7 = σ.1 7 := hf_τ13.1 7 (by decide)
    have w8_τ13 : τ13.1 8 = σ.1 8 := hf_τ13.1 8 (by decide)
    have w9_τ13 : τ13.1 9 = σ.1 9 := hf_τ13.1 9 (by decide)
    have w11_τ13 : τ13.1 11 = σ.1 11 := hf_τ13.1 11 (by decide)
    have w12_τ13 : τ13.1 12 = σ.1 12 := hf_τ13.1 12 (by decide)
    have w13_τ13 : τ13.1 13 = σ.1 13 := hf_τ13.1 13 (by decide)
    have w14_τ13 : τ13.1 14 = σ.1 14 := hf_τ13.1 14 (by decide)
    have w15_τ13 : τ13.1 15 = σ.1 15 := hf_τ13.1 15 (by decide)
    have w16_τ13 : τ13.1 16 = σ.1 16 := hf_τ13.1 16 (by decide)
    have w21_τ13 : τ13.1 21 = σ.1 21 := hf_τ13.1 21 (by decide)
    have w22_τ13 : τ13.1 22 = σ.1 22 := hf_τ13.1 22 (by decide)
    have w23_τ13 : τ13.1 23 = σ.1 23 := hf_τ13.1 23 (by decide)
    have w24_τ13 : τ13.1 24 = σ.1 24 := hf_τ13.1 24 (by decide)
    have w25_τ13 : τ13.1 25 = σ.1 25 := hf_τ13.1 25 (by decide)
    have w26_τ13 : τ13.1 26 = σ.1 26 := hf_τ13.1 26 (by decide)
    have w27_τ13 : τ13.1 27 = σ.1 27 := hf_τ13.1 27 (by decide)
    have w35_τ13 : τ13.1 35 = σ.1 35 := hf_τ13.1 35 (by decide)
    have w37_τ13 : τ13.1 37 = σ.1 37 := hf_τ13.1 37 (by decide)
    have w38_τ13 : τ13.1 38 = σ.1 38 := hf_τ13.1 38 (by decide)
    have w66_τ13 : τ13.1 66 = σ.1 66 := hf_τ13.1 66 (by decide)
    have g2_τ13 : τ13.2.1 2 = σ.2.1 2 := hf_τ13.2.1 2 (by decide)
    have g3_τ13 : τ13.2.1 3 = σ.2.1 3 := hf_τ13.2.1 3 (by decide)
    have g4_τ13 : τ13.2.1 4 = σ.2.1 4 := hf_τ13.2.1 4 (by decide)
    have g5_τ13 : τ13.2.1 5 = σ.2.1 5 := hf_τ13.2.1 5 (by decide)
    have g6_τ13 : τ13.2.1 6 = σ.2.1 6 := hf_τ13.2.1 6 (by decide)
    have g8_τ13 : τ13.2.1 8 = σ.2.1 8 := hf_τ13.2.1 8 (by decide)
    have g9_τ13 : τ13.2.1 9 = σ.2.1 9 := hf_τ13.2.1 9 (by decide)
    have g10_τ13 : τ13.2.1 10 = σ.2.1 10 := hf_τ13.2.1 10 (by decide)
    have g11_τ13 : τ13.2.1 11 = σ.2.1 11 := hf_τ13.2.1 11 (by decide)
    have g13_τ13 : τ13.2.1 13 = σ.2.1 13 := hf_τ13.2.1 13 (by decide)
    have g14_τ13 : τ13.2.1 14 = σ.2.1 14 := hf_τ13.2.1 14 (by decide)
    have g15_τ13 : τ13.2.1 15 = σ.2.1 15 := hf_τ13.2.1 15 (by decide)
    have g16_τ13 : τ13.2.1 16 = σ.2.1 16 := hf_τ13.2.1 16 (by decide)
    have g18_τ13 : τ13.2.1 18 = σ.2.1 18 := hf_τ13.2.1 18 (by decide)
    have g19_τ13 : τ13.2.1 19 = σ.2.1 19 := hf_τ13.2.1 19 (by decide)
    have g20_τ13 : τ13.2.1 20 = σ.2.1 20 := hf_τ13.2.1 20 (by decide)
    have g22_τ13 : τ13.2.1 22 = σ.2.1 22 := hf_τ13.2.1 22 (by decide)
    have g25_τ13 : τ13.2.1 25 = σ.2.1 25 := hf_τ13.2.1 25 (by decide)
    have g26_τ13 : τ13.2.1 26 = σ.2.1 26 := hf_τ13.2.1 26 (by decide)
    have g27_τ13 : τ13.2.1 27 = σ.2.1 27 := hf_τ13.2.1 27 (by decide)
    have g28_τ13 : τ13.2.1 28 = σ.2.1 28 := hf_τ13.2.1 28 (by decide)
    have g29_τ13 : τ13.2.1 29 = σ.2.1 29 := hf_τ13.2.1 29 (by decide)
    have g30_τ13 : τ13.2.1 30 = σ.2.1 30 := hf_τ13.2.1 30 (by decide)
    have g31_τ13 : τ13.2.1 31 = σ.2.1 31 := hf_τ13.2.1 31 (by decide)
    have g32_τ13 : τ13.2.1 32 = σ.2.1 32 := hf_τ13.2.1 32 (by decide)
    have g33_τ13 : τ13.2.1 33 = σ.2.1 33 := hf_τ13.2.1 33 (by decide)
    have g34_τ13 : τ13.2.1 34 = σ.2.1 34 := hf_τ13.2.1 34 (by decide)
    have g35_τ13 : τ13.2.1 35 = σ.2.1 35 := hf_τ13.2.1 35 (by decide)
    have g36_τ13 : τ13.2.1 36 = σ.2.1 36 := hf_τ13.2.1 36 (by decide)
    have g37_τ13 : τ13.2.1 37 = σ.2.1 37 := hf_τ13.2.1 37 (by decide)
    have g44_τ13 : τ13.2.1 44 = σ.2.1 44 := hf_τ13.2.1 44 (by decide)
    have g45_τ13 : τ13.2.1 45 = σ.2.1 45 := hf_τ13.2.1 45 (by decide)
    have g49_τ13 : τ13.2.1 49 = σ.2.1 49 := hf_τ13.2.1 49 (by decide)
    have g51_τ13 : τ13.2.1 51 = σ.2.1 51 := hf_τ13.2.1 51 (by decide)
    have W7 : τ13.1 7 = σ.1 7 := by omega
    have W9 : τ13.1 9 = σ.1 9 := by omega
    have W11 : τ13.1 11 = σ.1 11 := by omega
    have W12 : τ13.1 12 = σ.1 12 := by omega
    have W13 : τ13.1 13 = σ.1 13 := by omega
    have W14 : τ13.1 14 = σ.1 14 := by omega
    have W15 : τ13.1 15 = σ.1 15 := by omega
    have W16 : τ13.1 16 = σ.1 16 := by omega
    have W21 : τ13.1 21 = σ.1 21 := by omega
    have W22 : τ13.1 22 = σ.1 22 := by omega
    have W23 : τ13.1 23 = σ.1 23 := by omega
    have W24 : τ13.1 24 = σ.1 24 := by omega
    have W25 : τ13.1 25 = σ.1 25 := by omega
    have W26 : τ13.1 26 = σ.1 26 := by omega
    have W27 : τ13.1 27 = σ.1 27 := by omega
    have W37 : τ13.1 37 = σ.1 37 := by omega
    have W38 : τ13.1 38 = σ.1 38 := by omega
    have W66 : τ13.1 66 = σ.1 66 := by omega
    have G13 : τ13.2.1 13 = σ.2.1 13 := (g13_τ13).trans G13
    have G19 : τ13.2.1 19 = σ.2.1 19 := (g19_τ13).trans G19
    have G22 : τ13.2.1 22 = σ.2.1 22 := (g22_τ13).trans G22
    have G25 : τ13.2.1 25 = σ.2.1 25 := (g25_τ13).trans G25
    have G26 : τ13.2.1 26 = σ.2.1 26 := (g26_τ13).trans G26
    have G27 : τ13.2.1 27 = σ.2.1 27 := (g27_τ13).trans G27
    have G28 : τ13.2.1 28 = σ.2.1 28 := (g28_τ13).trans G28
    have G29 : τ13.2.1 29 = σ.2.1 29 := (g29_τ13).trans G29
    have G30 : τ13.2.1 30 = σ.2.1 30 := (g30_τ13).trans G30
    have G31 : τ13.2.1 31 = σ.2.1 31 := (g31_τ13).trans G31
    have G32 : τ13.2.1 32 = σ.2.1 32 := (g32_τ13).trans G32
    have G33 : τ13.2.1 33 = σ.2.1 33 := (g33_τ13).trans G33
    have G34 : τ13.2.1 34 = σ.2.1 34 := (g34_τ13).trans G34
    have G35 : τ13.2.1 35 = σ.2.1 35 := (g35_τ13).trans G35
    have G36 : τ13.2.1 36 = σ.2.1 36 := (g36_τ13).trans G36
    have G37 : τ13.2.1 37 = σ.2.1 37 := (g37_τ13).trans G37
    have G44 : τ13.2.1 44 = σ.2.1 44 := (g44_τ13).trans G44
    have G45 : τ13.2.1 45 = σ.2.1 45 := (g45_τ13).trans G45
    have G49 : τ13.2.1 49 = σ.2.1 49 := (g49_τ13).trans G49
    have G51 : τ13.2.1 51 = σ.2.1 51 := (g51_τ13).trans G51
    have y14_7_τ13 : τ13.2.1 14 (τ13.1 7) = (σ.2.1 14) (σ.1 7) := by rw [g14_τ13, w7_τ13]
    have y36_15_τ13 : τ13.2.1 36 (τ13.1 15) = (σ.2.1 36) (σ.1 15) := by rw [g36_τ13, w15_τ13]
    have HT : J_ht (τ13.1 3) (τ13.2.1 2) (τ13.2.1 3) (τ13.2.1 5) (τ13.2.1 6) := by rw [show (J_ht (τ13.1 3) (τ13.2.1 2) (τ13.2.1 3) (τ13.2.1 5) (τ13.2.1 6)) = (J_ht (σ.1 3) (σ.2.1 2) (σ.2.1 3) (σ.2.1 5) (σ.2.1 6)) from by rw [w3_τ13, g2_τ13, g3_τ13, g5_τ13, g6_τ13]]; exact HT
    have NL : J_nl (τ13.1 3) (τ13.2.1 2) (τ13.2.1 3) (τ13.2.1 4) := by rw [show (J_nl (τ13.1 3) (τ13.2.1 2) (τ13.2.1 3) (τ13.2.1 4)) = (J_nl (σ.1 3) (σ.2.1 2) (σ.2.1 3) (σ.2.1 4)) from by rw [w3_τ13, g2_τ13, g3_τ13, g4_τ13]]; exact NL
    have MN : J_mn (τ13.1 3) (τ13.1 5) ((τ13.1 7) + 1) (τ13.2.1 4) := by rw [show (J_mn (τ13.1 3) (τ13.1 5) ((τ13.1 7) + 1) (τ13.2.1 4)) = (J_mn (σ.1 3) (σ.1 5) ((σ.1 7) + 1) (σ.2.1 4)) from by rw [w3_τ13, w5_τ13, w7_τ13, g4_τ13]]; exact MN
    have VA : J_va (τ13.1 8) 1000 (τ13.2.1 18) (τ13.2.1 20) := by rw [show (J_va (τ13.1 8) 1000 (τ13.2.1 18) (τ13.2.1 20)) = (J_va (σ.1 8) 1000 (σ.2.1 18) (σ.2.1 20)) from by rw [w8_τ13, g18_τ13, g20_τ13]]; exact VA
    have SC : J_sc (τ13.1 7) (τ13.1 9) (τ13.2.1 13) (τ13.2.1 14) (τ13.2.1 15) (τ13.2.1 16) (τ13.2.1 22) (τ13.2.1 19) := by rw [show (J_sc (τ13.1 7) (τ13.1 9) (τ13.2.1 13) (τ13.2.1 14) (τ13.2.1 15) (τ13.2.1 16) (τ13.2.1 22) (τ13.2.1 19)) = (J_sc (σ.1 7) (σ.1 9) (σ.2.1 13) (σ.2.1 14) (σ.2.1 15) (σ.2.1 16) (σ.2.1 22) (σ.2.1 19)) from by rw [w7_τ13, w9_τ13, g13_τ13, g14_τ13, g15_τ13, g16_τ13, g19_τ13, g22_τ13]]; exact SC
    have MK : J_mk (τ13.1 11) (τ13.1 8) (τ13.1 9) (τ13.1 10) (τ13.2.1 25) := q11_3
    have FF : J_ff (τ13.1 5) (τ13.1 7) (τ13.2.1 9) (τ13.2.1 13) (τ13.2.1 14) (τ13.2.1 15) := by rw [show (J_ff (τ13.1 5) (τ13.1 7) (τ13.2.1 9) (τ13.2.1 13) (τ13.2.1 14) (τ13.2.1 15)) = (J_ff (σ.1 5) (σ.1 7) (σ.2.1 9) (σ.2.1 13) (σ.2.1 14) (σ.2.1 15)) from by rw [w5_τ13, w7_τ13, g9_τ13, g13_τ13, g14_τ13, g15_τ13]]; exact FF
    have MT : ∀ s : Int, τ13.2.1 26 s ≤ (τ13.1 12) := by rw [show (∀ s : Int, τ13.2.1 26 s ≤ (τ13.1 12)) = (∀ s : Int, σ.2.1 26 s ≤ (σ.1 12)) from by rw [w12_τ13, g26_τ13]]; exact MT
    have VS : J_vs (τ13.1 8) (τ13.1 5) (τ13.2.1 20) := by rw [show (J_vs (τ13.1 8) (τ13.1 5) (τ13.2.1 20)) = (J_vs (σ.1 8) (σ.1 5) (σ.2.1 20)) from by rw [w5_τ13, w8_τ13, g20_τ13]]; exact VS
    have TX : J_vs (τ13.1 6) (τ13.1 5) (τ13.2.1 15) := by rw [show (J_vs (τ13.1 6) (τ13.1 5) (τ13.2.1 15)) = (J_vs (σ.1 6) (σ.1 5) (σ.2.1 15)) from by rw [w5_τ13, w6_τ13, g15_τ13]]; exact TX
    have RKS : J_rks (τ13.1 5) (τ13.1 4) (τ13.2.1 10) (τ13.2.1 11) := by rw [show (J_rks (τ13.1 5) (τ13.1 4) (τ13.2.1 10) (τ13.2.1 11)) = (J_rks (σ.1 5) (σ.1 4) (σ.2.1 10) (σ.2.1 11)) from by rw [w4_τ13, w5_τ13, g10_τ13, g11_τ13]]; exact RKS
    have CJ : J_all (τ13.1 7) (τ13.1 6) (τ13.1 13) (τ13.1 14) (τ13.1 15) (τ13.2.1 13) (τ13.2.1 14) (τ13.2.1 15) (τ13.2.1 16) (τ13.2.1 10) (τ13.2.1 27) (τ13.2.1 28) (τ13.2.1 29) (τ13.2.1 30) (τ13.2.1 31) (τ13.2.1 32) (τ13.2.1 33) (τ13.2.1 34) (τ13.2.1 35) (τ13.2.1 36) (τ13.2.1 37) := by rw [show (J_all (τ13.1 7) (τ13.1 6) (τ13.1 13) (τ13.1 14) (τ13.1 15) (τ13.2.1 13) (τ13.2.1 14) (τ13.2.1 15) (τ13.2.1 16) (τ13.2.1 10) (τ13.2.1 27) (τ13.2.1 28) (τ13.2.1 29) (τ13.2.1 30) (τ13.2.1 31) (τ13.2.1 32) (τ13.2.1 33) (τ13.2.1 34) (τ13.2.1 35) (τ13.2.1 36) (τ13.2.1 37)) = (J_all (σ.1 7) (σ.1 6) (σ.1 13) (σ.1 14) (σ.1 15) (σ.2.1 13) (σ.2.1 14) (σ.2.1 15) (σ.2.1 16) (σ.2.1 10) (σ.2.1 27) (σ.2.1 28) (σ.2.1 29) (σ.2.1 30) (σ.2.1 31) (σ.2.1 32) (σ.2.1 33) (σ.2.1 34) (σ.2.1 35) (σ.2.1 36) (σ.2.1 37)) from by rw [w6_τ13, w7_τ13, w13_τ13, w14_τ13, w15_τ13, g10_τ13, g13_τ13, g14_τ13, g15_τ13, g16_τ13, g27_τ13, g28_τ13, g29_τ13, g30_τ13, g31_τ13, g32_τ13, g33_τ13, g34_τ13, g35_τ13, g36_τ13, g37_τ13]]; exact CJ
    have BP : J_bp (τ13.2.1 44) (τ13.2.1 45) := by rw [show (J_bp (τ13.2.1 44) (τ13.2.1 45)) = (J_bp (σ.2.1 44) (σ.2.1 45)) from by rw [g44_τ13, g45_τ13]]; exact BP
    have CH : j_eq (σ.2.1 36 (σ.1 15)) (σ.2.1 37) (τ13.2.1 37) := by rw [show (j_eq (σ.2.1 36 (σ.1 15)) (σ.2.1 37) (τ13.2.1 37)) = (j_eq (σ.2.1 36 (σ.1 15)) (σ.2.1 37) (σ.2.1 37)) from by rw [g37_τ13]]; exact CH
    have A2 : ∀ j, 0 ≤ τ13.2.1 2 j ∧ τ13.2.1 2 j ≤ 65535 := fun j => hT.2 2 j
    have A3 : ∀ j, 0 ≤ τ13.2.1 3 j ∧ τ13.2.1 3 j ≤ 30000 := fun j => hT.2 3 j
    have A4 : ∀ j, (-1000) ≤ τ13.2.1 4 j ∧ τ13.2.1 4 j ≤ 1499 := fun j => hT.2 4 j
    have A5 : ∀ j, 0 ≤ τ13.2.1 5 j ∧ τ13.2.1 5 j ≤ 2500 := fun j => hT.2 5 j
    have A6 : ∀ j, 0 ≤ τ13.2.1 6 j ∧ τ13.2.1 6 j ≤ 2500 := fun j => hT.2 6 j
    have A8 : ∀ j, 0 ≤ τ13.2.1 8 j ∧ τ13.2.1 8 j ≤ 1 := fun j => hT.2 8 j
    have A9 : ∀ j, (-1) ≤ τ13.2.1 9 j ∧ τ13.2.1 9 j ≤ 1499 := fun j => hT.2 9 j
    have A10 : ∀ j, (-1) ≤ τ13.2.1 10 j ∧ τ13.2.1 10 j ≤ 99 := fun j => hT.2 10 j
    have A11 : ∀ j, 0 ≤ τ13.2.1 11 j ∧ τ13.2.1 11 j ≤ 999 := fun j => hT.2 11 j
    have A13 : ∀ j, 0 ≤ τ13.2.1 13 j ∧ τ13.2.1 13 j ≤ 4 := fun j => hT.2 13 j
    have A14 : ∀ j, 0 ≤ τ13.2.1 14 j ∧ τ13.2.1 14 j ≤ 30000 := fun j => hT.2 14 j
    have A15 : ∀ j, 0 ≤ τ13.2.1 15 j ∧ τ13.2.1 15 j ≤ 999 := fun j => hT.2 15 j
    have A16 : ∀ j, (-1) ≤ τ13.2.1 16 j ∧ τ13.2.1 16 j ≤ 1499 := fun j => hT.2 16 j
    have A18 : ∀ j, 0 ≤ τ13.2.1 18 j ∧ τ13.2.1 18 j ≤ 1 := fun j => hT.2 18 j
    have A19 : ∀ j, (-1) ≤ τ13.2.1 19 j ∧ τ13.2.1 19 j ≤ 1499 := fun j => hT.2 19 j
    have A20 : ∀ j, 0 ≤ τ13.2.1 20 j ∧ τ13.2.1 20 j ≤ 999 := fun j => hT.2 20 j
    have A22 : ∀ j, 0 ≤ τ13.2.1 22 j ∧ τ13.2.1 22 j ≤ 1499 := fun j => hT.2 22 j
    have A23 : ∀ j, 0 ≤ τ13.2.1 23 j ∧ τ13.2.1 23 j ≤ 999 := fun j => hT.2 23 j
    have A24 : ∀ j, 0 ≤ τ13.2.1 24 j ∧ τ13.2.1 24 j ≤ 999 := fun j => hT.2 24 j
    have A26 : ∀ j, (-2147483648) ≤ τ13.2.1 26 j ∧ τ13.2.1 26 j ≤ 2147483647 := fun j => hT.2 26 j
    have A27 : ∀ j, 0 ≤ τ13.2.1 27 j ∧ τ13.2.1 27 j ≤ 90000 := fun j => hT.2 27 j
    have A28 : ∀ j, 0 ≤ τ13.2.1 28 j ∧ τ13.2.1 28 j ≤ 60 := fun j => hT.2 28 j
    have A29 : ∀ j, 0 ≤ τ13.2.1 29 j ∧ τ13.2.1 29 j ≤ 1499 := fun j => hT.2 29 j
    have A30 : ∀ j, 0 ≤ τ13.2.1 30 j ∧ τ13.2.1 30 j ≤ 20000 := fun j => hT.2 30 j
    have A31 : ∀ j, 0 ≤ τ13.2.1 31 j ∧ τ13.2.1 31 j ≤ 20000 := fun j => hT.2 31 j
    have A32 : ∀ j, 0 ≤ τ13.2.1 32 j ∧ τ13.2.1 32 j ≤ 999999 := fun j => hT.2 32 j
    have A33 : ∀ j, 0 ≤ τ13.2.1 33 j ∧ τ13.2.1 33 j ≤ 20000 := fun j => hT.2 33 j
    have A34 : ∀ j, 0 ≤ τ13.2.1 34 j ∧ τ13.2.1 34 j ≤ 20000 := fun j => hT.2 34 j
    have A35 : ∀ j, 0 ≤ τ13.2.1 35 j ∧ τ13.2.1 35 j ≤ 1499 := fun j => hT.2 35 j
    have A36 : ∀ j, 0 ≤ τ13.2.1 36 j ∧ τ13.2.1 36 j ≤ 20000 := fun j => hT.2 36 j
    have A37 : ∀ j, 0 ≤ τ13.2.1 37 j ∧ τ13.2.1 37 j ≤ 19999 := fun j => hT.2 37 j
    have A44 : ∀ j, 0 ≤ τ13.2.1 44 j ∧ τ13.2.1 44 j ≤ 42000 := fun j => hT.2 44 j
    have A45 : ∀ j, 0 ≤ τ13.2.1 45 j ∧ τ13.2.1 45 j ≤ 1000 := fun j => hT.2 45 j
    have A49 : ∀ j, (-300) ≤ τ13.2.1 49 j ∧ τ13.2.1 49 j ≤ 67035 := fun j => hT.2 49 j
    have A51 : ∀ j, 0 ≤ τ13.2.1 51 j ∧ τ13.2.1 51 j ≤ 1499 := fun j => hT.2 51 j
    have A54 : ∀ j, 0 ≤ τ13.2.1 54 j ∧ τ13.2.1 54 j ≤ 999 := fun j => hT.2 54 j
    have v3 : 0 ≤ τ13.1 3 ∧ τ13.1 3 ≤ 2500 := hT.1 3
    have v4 : 0 ≤ τ13.1 4 ∧ τ13.1 4 ≤ 100 := hT.1 4
    have v5 : 0 ≤ τ13.1 5 ∧ τ13.1 5 ≤ 1000 := hT.1 5
    have v6 : 0 ≤ τ13.1 6 ∧ τ13.1 6 ≤ 30000 := hT.1 6
    have v7 : 0 ≤ τ13.1 7 ∧ τ13.1 7 ≤ 1500 := hT.1 7
    have v8 : 0 ≤ τ13.1 8 ∧ τ13.1 8 ≤ 1000 := hT.1 8
    have v9 : 0 ≤ τ13.1 9 ∧ τ13.1 9 ≤ 1500 := hT.1 9
    have v10 : 0 ≤ τ13.1 10 ∧ τ13.1 10 ≤ 1000 := hT.1 10
    have v11 : 0 ≤ τ13.1 11 ∧ τ13.1 11 ≤ 50 := hT.1 11
    have v12 : (-2147483648) ≤ τ13.1 12 ∧ τ13.1 12 ≤ 2147483647 := hT.1 12
    have v13 : 0 ≤ τ13.1 13 ∧ τ13.1 13 ≤ 90000 := hT.1 13
    have v14 : 0 ≤ τ13.1 14 ∧ τ13.1 14 ≤ 20000 := hT.1 14
    have v15 : 0 ≤ τ13.1 15 ∧ τ13.1 15 ≤ 20000 := hT.1 15
    have v16 : 0 ≤ τ13.1 16 ∧ τ13.1 16 ≤ 20000 := hT.1 16
    have v21 : 0 ≤ τ13.1 21 ∧ τ13.1 21 ≤ 20000 := hT.1 21
    have v22 : 0 ≤ τ13.1 22 ∧ τ13.1 22 ≤ 300 := hT.1 22
    have v23 : 0 ≤ τ13.1 23 ∧ τ13.1 23 ≤ 300 := hT.1 23
    have v24 : 0 ≤ τ13.1 24 ∧ τ13.1 24 ≤ 1499 := hT.1 24
    have v25 : 0 ≤ τ13.1 25 ∧ τ13.1 25 ≤ 3 := hT.1 25
    have v26 : 0 ≤ τ13.1 26 ∧ τ13.1 26 ≤ 5000010 := hT.1 26
    have v27 : 0 ≤ τ13.1 27 ∧ τ13.1 27 ≤ 1 := hT.1 27
    have v35 : 0 ≤ τ13.1 35 ∧ τ13.1 35 ≤ 7 := hT.1 35
    have v36 : 0 ≤ τ13.1 36 ∧ τ13.1 36 ≤ 1001 := hT.1 36
    have v37 : 0 ≤ τ13.1 37 ∧ τ13.1 37 ≤ 4 := hT.1 37
    have v38 : (-1) ≤ τ13.1 38 ∧ τ13.1 38 ≤ 999 := hT.1 38
    have v66 : 0 ≤ τ13.1 66 ∧ τ13.1 66 ≤ 1 := hT.1 66
    have a14_7 : 0 ≤ τ13.2.1 14 (τ13.1 7) ∧ τ13.2.1 14 (τ13.1 7) ≤ 30000 := hT.2 14 _
    have a36_15 : 0 ≤ τ13.2.1 36 (τ13.1 15) ∧ τ13.2.1 36 (τ13.1 15) ≤ 20000 := hT.2 36 _
    have av3 : σ.1 3 ≤ τ13.1 3 := ag.1 3 (by decide)
    have av5 : σ.1 5 ≤ τ13.1 5 := ag.1 5 (by decide)
    have av6 : σ.1 6 ≤ τ13.1 6 := ag.1 6 (by decide)
    have a14 := ag_k ag 14 7 1 (by decide) (σ.1 7) (by omega)
    exact ⟨hT, (show 0 ≤ x12 ∧ x12 ≤ 19 from by (first | assumption | omega | (simp only [st_s] <;> omega) | fail)), (show J_ht (τ13.1 3) (τ13.2.1 2) (τ13.2.1 3) (τ13.2.1 5) (τ13.2.1 6) from HT), (show J_mn (τ13.1 3) (τ13.1 5) ((τ13.1 7) + 1) (τ13.2.1 4) from MN), (show J_rks (τ13.1 5) (τ13.1 4) (τ13.2.1 10) (τ13.2.1 11) from RKS), (show J_vs (τ13.1 8) (τ13.1 5) (τ13.2.1 20) from VS), (show J_vs (τ13.1 6) (τ13.1 5) (τ13.2.1 15) from TX), (show J_va (τ13.1 8) 1000 (τ13.2.1 18) (τ13.2.1 20) from VA), (show J_mk (τ13.1 11) (τ13.1 8) (τ13.1 9) (τ13.1 10) (τ13.2.1 25) from MK), (show J_sc (τ13.1 7) (τ13.1 9) (τ13.2.1 13) (τ13.2.1 14) (τ13.2.1 15) (τ13.2.1 16) (τ13.2.1 22) (τ13.2.1 19) from SC), (show J_ff (τ13.1 5) (τ13.1 7) (τ13.2.1 9) (τ13.2.1 13) (τ13.2.1 14) (τ13.2.1 15) from FF), (show ∀ s : Int, τ13.2.1 26 s ≤ (τ13.1 12) from MT), (show J_all (τ13.1 7) (τ13.1 6) (τ13.1 13) (τ13.1 14) (τ13.1 15) (τ13.2.1 13) (τ13.2.1 14) (τ13.2.1 15) (τ13.2.1 16) (τ13.2.1 10) (τ13.2.1 27) (τ13.2.1 28) (τ13.2.1 29) (τ13.2.1 30) (τ13.2.1 31) (τ13.2.1 32) (τ13.2.1 33) (τ13.2.1 34) (τ13.2.1 35) (τ13.2.1 36) (τ13.2.1 37) from CJ), (show J_bp (τ13.2.1 44) (τ13.2.1 45) from BP), (show J_nl (τ13.1 3) (τ13.2.1 2) (τ13.2.1 3) (τ13.2.1 4) from NL), (show x12 = 0 → J_rs (τ13.1 35) (τ13.1 7) (τ13.1 6) (τ13.1 36) (τ13.1 37) (τ13.1 5) (τ13.1 8) (τ13.2.1 14) from by (first | (intro z; exfalso; omega) | (intro z; have w := q2_2 z; unfold J_rs; omega) | (intro z; have w := q5_9 z; unfold J_rs; omega) | (intro z; have w := q8_11 z; unfold J_rs; omega) | (intro z; have w1 := q14_5 z; have w2 := q14_7 z; have w3 := q14_8 z; rw [show τ16.1 7 = σ.1 7 from by omega] at w1; unfold J_rs; rw [show τ16.1 7 = σ.1 7 from by omega]; omega) | (intro z; unfold J_rs; omega) | fail)), (show x12 = 0 → 5 ≤ (τ13.1 35) → 1 ≤ (τ13.1 36) → 0 ≤ τ13.2.1 10 (τ13.2.1 15 (τ13.2.1 14 (τ13.1 7))) from by (first | (intro z; exfalso; omega) | (intro z y; exfalso; omega) | (intro z y y2; exact q14_6 z) | fail)), (show x12 = 0 → (τ13.1 35) = 4 → j_in (τ13.1 36) 1000 (τ13.2.1 54) from by (first | (intro z; exfalso; omega) | (intro z y; exfalso; omega) | (intro z y; exact q11_2 z) | fail)), (show x12 = 0 → 5 ≤ (τ13.1 35) → J_ip (τ13.1 7) (τ13.1 6) (τ13.1 37) (τ13.2.1 14) (τ13.2.1 15) (τ13.2.1 16) (τ13.2.1 19) from by (first | (intro z; exfalso; omega) | (intro z y; exfalso; omega) | (intro z y; exact q14_9 z) | fail)), (show x12 = 0 → ((τ13.1 35) ≤ 5 → (τ13.1 13) ≤ 60 * (τ13.1 7)) ∧ (τ13.1 13) ≤ 60 * (τ13.1 7) + 60 from by (intro z; omega)), (show x12 = 0 → 6 ≤ (τ13.1 35) → (τ13.1 24) = (τ13.1 7) ∧ J_f (τ13.1 7) (τ13.1 13) (τ13.1 14) (τ13.2.1 13) (τ13.2.1 14) (τ13.2.1 15) (τ13.2.1 16) (τ13.2.1 27) (τ13.2.1 28) (τ13.2.1 29) (τ13.2.1 30) (τ13.2.1 31) (τ13.2.1 32) from by (first | (intro z; exfalso; omega) | (intro z y; exfalso; omega) | exact fun _ => frx | (intro z y; exact frx (by omega)) | (intro z y; have w := frx (by omega); rw [W7, W13, W14, W24, G13, G14, G15, G16, G27, G28, G29, G30, G31, G32]; exact w) | fail)), (show x12 = 0 → 6 ≤ (τ13.1 35) → J_sp (τ13.1 24) (τ13.1 21) (τ13.1 23) (τ13.1 22) (τ13.2.1 49) (τ13.2.1 51) ∧ ((τ13.1 16) + (τ13.1 21) ≤ 20000) ∧ (¬ (τ13.1 27) = 0 → 1 ≤ (τ13.1 21) ∧ 0 ≤ τ13.2.1 49 ((τ13.1 21) - 1) ∧ τ13.2.1 49 ((τ13.1 21) - 1) < 65536) ∧ ((τ13.1 26) ≤ 1000000) ∧ ((τ13.1 25) ≤ 2 → (τ13.1 27) = 0) from by (first | (intro z; exfalso; omega) | (intro z y; exfalso; omega) | exact fun _ => spx | (intro z y; exact spx (by omega)) | fail)), (show x12 = 0 → (τ13.1 15) ≤ (τ13.1 16) ∧ τ13.2.1 36 (τ13.1 15) ≤ (τ13.1 16) from by (intro z; first | exact sux | omega)), (show x12 = 0 → (τ13.1 9) ≤ (τ13.1 7) from by (intro z; omega)), (show j_rr ((σ.1 5)) (σ.2.1 10) (τ13.2.1 10) from by (first | exact j_rr0 _ _ | (rw [G10]; exact j_rr0 _ _) | exact q5_8 | exact q8_10 | exact q14_4 | fail)), (show j_eq (σ.2.1 36 (σ.1 15)) (σ.2.1 37) (τ13.2.1 37) from CH), (show (τ13.1 12) ≤ (σ.1 12) + 1 from by (first | assumption | omega | (simp only [st_s] <;> omega) | fail)), (show c_Y σ τ13 from by (first | exact c_Y0 _ | exact q8_12 | exact q14_10 | exact c_Y_g W4 G11 G20 G22 G25 | exact c_Y_g (by omega) (by rw [g11_τ4]) (by rw [g20_τ4]) (by rw [g22_τ4]) (by rw [g25_τ4]) | exact c_Y_g (by omega) (by rw [g11_τ7]) (by rw [g20_τ7]) (by rw [g22_τ7]) (by rw [g25_τ7]) | exact c_Y_g (by omega) (by rw [g11_τ13]) (by rw [g20_τ13]) (by rw [g22_τ13]) (by rw [g25_τ13]) | fail)), ag⟩
  ·
    have ipj := ipx (by omega)
    have ucj := uc (by omega)
    refine ⟨_, K_X7_takeSymbol hT (show -1 ≤ (σ.1 38) from by (first | assumption | omega | (simp only [st_s] <;> omega) | fail)) (show (σ.1 38) < 1000 from by (first | assumption | omega | (simp only [st_s] <;> omega) | fail)) (show (σ.1 38) < (σ.1 5) from by (first | assumption | omega | (simp only [st_s] <;> omega) | fail)) (show (σ.1 7) < 1500 from by (first | assumption | omega | (simp only [st_s] <;> omega) | fail)) (show σ.2.1 14 (σ.1 7) + (σ.1 36) = (σ.1 6) from by (first | assumption | omega | (simp only [st_s] <;> omega) | fail)) (show ∀ s : Int, 0 ≤ s → s < (σ.1 5) → 0 ≤ σ.2.1 9 s → σ.2.1 14 (σ.2.1 9 s) < 30000 from by (first | assumption | omega | (simp only [st_s] <;> omega) | fail)) (show J_vs (σ.1 6) (σ.1 5) (σ.2.1 15) from TX) (show J_rks (σ.1 5) (σ.1 4) (σ.2.1 10) (σ.2.1 11) from RKS) (show 1 ≤ (σ.1 36) → 0 ≤ σ.2.1 10 (σ.2.1 15 (σ.2.1 14 (σ.1 7))) from by (first | assumption | omega | (simp only [st_s] <;> omega) | fail)) (show (σ.1 37) = 0 → (σ.1 36) ≤ 2 from by (first | assumption | omega | (simp only [st_s] <;> omega) | fail)) (show (σ.1 36) ≤ 300 from by (first | assumption | omega | (simp only [st_s] <;> omega) | fail)) (show J_ip (σ.1 7) (σ.1 6) (σ.1 37) (σ.2.1 14) (σ.2.1 15) (σ.2.1 16) (σ.2.1 19) from by (first | assumption | omega | (simp only [st_s] <;> omega) | fail)), ?_⟩
    intro x15 τ16 r_x15 hn_τ16 hf_τ16 hq
    obtain ⟨hT, q14_1, q14_2, q14_3, q14_4, q14_5, q14_6, q14_7, q14_8, q14_9, q14_10, q14_11⟩ := hq
    replace q14_1 : 0 ≤ x15 ∧ x15 ≤ 19 := q14_1
    replace q14_2 : J_vs (τ16.1 6) (τ16.1 5) (τ16.2.1 15) := q14_2
    replace q14_3 : J_rks (τ16.1 5) (τ16.1 4) (τ16.2.1 10) (τ16.2.1 11) := q14_3
    replace q14_4 : j_rr ((σ.1 5)) (σ.2.1 10) (τ16.2.1 10) := q14_4
    replace q14_5 : x15 = 0 → (τ16.1 36) = (σ.1 36) + 1 ∧ (τ16.1 6) = (σ.1 6) + 1 ∧ τ16.2.1 14 ((τ16.1 7) + 1) = (τ16.1 6) := q14_5
    replace q14_6 : x15 = 0 → 0 ≤ τ16.2.1 10 (τ16.2.1 15 (τ16.2.1 14 (τ16.1 7))) := q14_6
    replace q14_7 : x15 = 0 → (σ.1 37) = 0 → (τ16.1 36) ≤ 2 := q14_7
    replace q14_8 : x15 = 0 → (τ16.1 36) ≤ 300 := q14_8
    replace q14_9 : x15 = 0 → J_ip (τ16.1 7) (τ16.1 6) (τ16.1 37) (τ16.2.1 14) (τ16.2.1 15) (τ16.2.1 16) (τ16.2.1 19) := q14_9
    replace q14_10 : c_Y σ τ16 := q14_10
    replace q14_11 : c_ag σ τ16 := q14_11
    replace ag : c_ag σ τ16 := ag_t ag q14_11 rfl
    have w3_τ16 : τ16.1 3 = σ.1 3 := hf_τ16.1 3 (by decide)
    have w5_τ16 : τ16.1 5 = σ.1 5 := hf_τ16.1 5 (by decide)
    have w7_τ16 : τ16.1 7 = σ.1 7 := hf_τ16.1 7 (by decide)
    have w8_τ16 : τ16.1 8 = σ.1 8 := hf_τ16.1 8 (by decide)
    have w9_τ16 : τ16.1 9 = σ.1 9 := hf_τ16.1 9 (by decide)
    have w10_τ16 : τ16.1 10 = σ.1 10 := hf_τ16.1 10 (by decide)
    have w11_τ16 : τ16.1 11 = σ.1 11 := hf_τ16.1 11 (by decide)
    have w12_τ16 : τ16.1 12 = σ.1 12 := hf_τ16.1 12 (by decide)
    have w13_τ16 : τ16.1 13 = σ.1 13 := hf_τ16.1 13 (by decide)
    have w14_τ16 : τ16.1 14 = σ.1 14 := hf_τ16.1 14 (by decide)
    have w15_τ16 : τ16.1 15 = σ.1 15 := hf_τ16.1 15 (by decide)
    have w16_τ16 : τ16.1 16 = σ.1 16 := hf_τ16.1 16 (by decide)
    have w21_τ16 : τ16.1 21 = σ.1 21 := hf_τ16.1 21 (by decide)
    have w22_τ16 : τ16.1 22 = σ.1 22 := hf_τ16.1 22 (by decide)
    have w23_τ16 : τ16.1 23 = σ.1 23 := hf_τ16.1 23 (by decide)
    have w24_τ16 : τ16.1 24 = σ.1 24 := hf_τ16.1 24 (by decide)
    have w25_τ16 : τ16.1 25 = σ.1 25 := hf_τ16.1 25 (by decide)
    have w26_τ16 : τ16.1 26 = σ.1 26 := hf_τ16.1 26 (by decide)
    have w27_τ16 : τ16.1 27 = σ.1 27 := hf_τ16.1 27 (by decide)
    have w35_τ16 : τ16.1 35 = σ.1 35 := hf_τ16.1 35 (by decide)
    have w37_τ16 : τ16.1 37 = σ.1 37 := hf_τ16.1 37 (by decide)
    have w38_τ16 : τ16.1 38 = σ.1 38 := hf_τ16.1 38 (by decide)
    have w66_τ16 : τ16.1 66 = σ.1 66 := hf_τ16.1 66 (by decide)
    have g2_τ16 : τ16.2.1 2 = σ.2.1 2 := hf_τ16.2.1 2 (by decide)
    have g3_τ16 : τ16.2.1 3 = σ.2.1 3 := hf_τ16.2.1 3 (by decide)
    have g4_τ16 : τ16.2.1 4 = σ.2.1 4 := hf_τ16.2.1 4 (by decide)
    have g5_τ16 : τ16.2.1 5 = σ.2.1 5 := hf_τ16.2.1 5 (by decide)
    have g6_τ16 : τ16.2.1 6 = σ.2.1 6 := hf_τ16.2.1 6 (by decide)
    have g8_τ16 : τ16.2.1 8 = σ.2.1 8 := hf_τ16.2.1 8 (by decide)
    have g9_τ16 : τ16.2.1 9 = σ.2.1 9 := hf_τ16.2.1 9 (by decide)
    have g13_τ16 : τ16.2.1 13 = σ.2.1 13 := hf_τ16.2.1 13 (by decide)
    have g18_τ16 : τ16.2.1 18 = σ.2.1 18 := hf_τ16.2.1 18 (by decide)
    have g19_τ16 : τ16.2.1 19 = σ.2.1 19 := hf_τ16.2.1 19 (by decide)
    have g20_τ16 : τ16.2.1 20 = σ.2.1 20 := hf_τ16.2.1 20 (by decide)
    have g22_τ16 : τ16.2.1 22 = σ.2.1 22 := hf_τ16.2.1 22 (by decide)
    have g23_τ16 : τ16.2.1 23 = σ.2.1 23 := hf_τ16.2.1 23 (by decide)
    have g24_τ16 : τ16.2.1 24 = σ.2.1 24 := hf_τ16.2.1 24 (by decide)
    have g25_τ16 : τ16.2.1 25 = σ.2.1 25 := hf_τ16.2.1 25 (by decide)
    have g26_τ16 : τ16.2.1 26 = σ.2.1 26 := hf_τ16.2.1 26 (by decide)
    have g27_τ16 : τ16.2.1 27 = σ.2.1 27 := hf_τ16.2.1 27 (by decide)
    have g28_τ16 : τ16.2.1 28 = σ.2.1 28 := hf_τ16.2.1 28 (by decide)
    have g29_τ16 : τ16.2.1 29 = σ.2.1 29 := hf_τ16.2.1 29 (by decide)
    have g30_τ16 : τ16.2.1 30 = σ.2.1 30 := hf_τ16.2.1 30 (by decide)
    have g31_τ16 : τ16.2.1 31 = σ.2.1 31 := hf_τ16.2.1 31 (by decide)
    have g32_τ16 : τ16.2.1 32 = σ.2.1 32 := hf_τ16.2.1 32 (by decide)
    have g33_τ16 : τ16.2.1 33 = σ.2.1 33 := hf_τ16.2.1 33 (by decide)
    have g34_τ16 : τ16.2.1 34 = σ.2.1 34 := hf_τ16.2.1 34 (by decide)
    have g35_τ16 : τ16.2.1 35 = σ.2.1 35 := hf_τ16.2.1 35 (by decide)
    have g36_τ16 : τ16.2.1 36 = σ.2.1 36 := hf_τ16.2.1 36 (by decide)
    have g37_τ16 : τ16.2.1 37 = σ.2.1 37 := hf_τ16.2.1 37 (by decide)
    have g44_τ16 : τ16.2.1 44 = σ.2.1 44 := hf_τ16.2.1 44 (by decide)
    have g45_τ16 : τ16.2.1 45 = σ.2.1 45 := hf_τ16.2.1 45 (by decide)
    have g49_τ16 : τ16.2.1 49 = σ.2.1 49 := hf_τ16.2.1 49 (by decide)
    have g51_τ16 : τ16.2.1 51 = σ.2.1 51 := hf_τ16.2.1 51 (by decide)
    have g54_τ16 : τ16.2.1 54 = σ.2.1 54 := hf_τ16.2.1 54 (by decide)
    have W7 : τ16.1 7 = σ.1 7 := by omega
    have W9 : τ16.1 9 = σ.1 9 := by omega
    have W11 : τ16.1 11 = σ.1 11 := by omega
    have W12 : τ16.1 12 = σ.1 12 := by omega
    have W13 : τ16.1 13 = σ.1 13 := by omega
    have W14 : τ16.1 14 = σ.1 14 := by omega
    have W15 : τ16.1 15 = σ.1 15 := by omega
    have W16 : τ16.1 16 = σ.1 16 := by omega
    have W21 : τ16.1 21 = σ.1 21 := by omega
    have W22 : τ16.1 22 = σ.1 22 := by omega
    have W23 : τ16.1 23 = σ.1 23 := by omega
    have W24 : τ16.1 24 = σ.1 24 := by omega
    have W25 : τ16.1 25 = σ.1 25 := by omega
    have W26 : τ16.1 26 = σ.1 26 := by omega
    have W27 : τ16.1 27 = σ.1 27 := by omega
    have W37 : τ16.1 37 = σ.1 37 := by omega
    have W38 : τ16.1 38 = σ.1 38 := by omega
    have W66 : τ16.1 66 = σ.1 66 := by omega
    have G13 : τ16.2.1 13 = σ.2.1 13 := (g13_τ16).trans G13
    have G19 : τ16.2.1 19 = σ.2.1 19 := (g19_τ16).trans G19
    have G22 : τ16.2.1 22 = σ.2.1 22 := (g22_τ16).trans G22
    have G25 : τ16.2.1 25 = σ.2.1 25 := (g25_τ16).trans G25
    have G26 : τ16.2.1 26 = σ.2.1 26 := (g26_τ16).trans G26
    have G27 : τ16.2.1 27 = σ.2.1 27 := (g27_τ16).trans G27
    have G28 : τ16.2.1 28 = σ.2.1 28 := (g28_τ16).trans G28
    have G29 : τ16.2.1 29 = σ.2.1 29 := (g29_τ16).trans G29
    have G30 : τ16.2.1 30 = σ.2.1 30 := (g30_τ16).trans G30
    have G31 : τ16.2.1 31 = σ.2.1 31 := (g31_τ16).trans G31
    have G32 : τ16.2.1 32 = σ.2.1 32 := (g32_τ16).trans G32
    have G33 : τ16.2.1 33 = σ.2.1 33 := (g33_τ16).trans G33
    have G34 : τ16.2.1 34 = σ.2.1 34 := (g34_τ16).trans G34
    have G35 : τ16.2.1 35 = σ.2.1 35 := (g35_τ16).trans G35
    have G36 : τ16.2.1 36 = σ.2.1 36 := (g36_τ16).trans G36
    have G37 : τ16.2.1 37 = σ.2.1 37 := (g37_τ16).trans G37
    have G44 : τ16.2.1 44 = σ.2.1 44 := (g44_τ16).trans G44
    have G45 : τ16.2.1 45 = σ.2.1 45 := (g45_τ16).trans G45
    have G49 : τ16.2.1 49 = σ.2.1 49 := (g49_τ16).trans G49
    have G51 : τ16.2.1 51 = σ.2.1 51 := (g51_τ16).trans G51
    have y36_15_τ16 : τ16.2.1 36 (τ16.1 15) = (σ.2.1 36) (σ.1 15) := by rw [g36_τ16, w15_τ16]
    have HT : J_ht (τ16.1 3) (τ16.2.1 2) (τ16.2.1 3) (τ16.2.1 5) (τ16.2.1 6) := by rw [show (J_ht (τ16.1 3) (τ16.2.1 2) (τ16.2.1 3) (τ16.2.1 5) (τ16.2.1 6)) = (J_ht (σ.1 3) (σ.2.1 2) (σ.2.1 3) (σ.2.1 5) (σ.2.1 6)) from by rw [w3_τ16, g2_τ16, g3_τ16, g5_τ16, g6_τ16]]; exact HT
    have NL : J_nl (τ16.1 3) (τ16.2.1 2) (τ16.2.1 3) (τ16.2.1 4) := by rw [show (J_nl (τ16.1 3) (τ16.2.1 2) (τ16.2.1 3) (τ16.2.1 4)) = (J_nl (σ.1 3) (σ.2.1 2) (σ.2.1 3) (σ.2.1 4)) from by rw [w3_τ16, g2_τ16, g3_τ16, g4_τ16]]; exact NL
    have MN : J_mn (τ16.1 3) (τ16.1 5) ((τ16.1 7) + 1) (τ16.2.1 4) := by rw [show (J_mn (τ16.1 3) (τ16.1 5) ((τ16.1 7) + 1) (τ16.2.1 4)) = (J_mn (σ.1 3) (σ.1 5) ((σ.1 7) + 1) (σ.2.1 4)) from by rw [w3_τ16, w5_τ16, w7_τ16, g4_τ16]]; exact MN
    have VA : J_va (τ16.1 8) 1000 (τ16.2.1 18) (τ16.2.1 20) := by rw [show (J_va (τ16.1 8) 1000 (τ16.2.1 18) (τ16.2.1 20)) = (J_va (σ.1 8) 1000 (σ.2.1 18) (σ.2.1 20)) from by rw [w8_τ16, g18_τ16, g20_τ16]]; exact VA
    have MK : J_mk (τ16.1 11) (τ16.1 8) (τ16.1 9) (τ16.1 10) (τ16.2.1 25) := by rw [show (J_mk (τ16.1 11) (τ16.1 8) (τ16.1 9) (τ16.1 10) (τ16.2.1 25)) = (J_mk (σ.1 11) (σ.1 8) (σ.1 9) (σ.1 10) (σ.2.1 25)) from by rw [w8_τ16, w9_τ16, w10_τ16, w11_τ16, g25_τ16]]; exact MK
    have MT : ∀ s : Int, τ16.2.1 26 s ≤ (τ16.1 12) := by rw [show (∀ s : Int, τ16.2.1 26 s ≤ (τ16.1 12)) = (∀ s : Int, σ.2.1 26 s ≤ (σ.1 12)) from by rw [w12_τ16, g26_τ16]]; exact MT
    have VS : J_vs (τ16.1 8) (τ16.1 5) (τ16.2.1 20) := by rw [show (J_vs (τ16.1 8) (τ16.1 5) (τ16.2.1 20)) = (J_vs (σ.1 8) (σ.1 5) (σ.2.1 20)) from by rw [w5_τ16, w8_τ16, g20_τ16]]; exact VS
    have TX : J_vs (τ16.1 6) (τ16.1 5) (τ16.2.1 15) := q14_2
    have RKS : J_rks (τ16.1 5) (τ16.1 4) (τ16.2.1 10) (τ16.2.1 11) := q14_3
    have BP : J_bp (τ16.2.1 44) (τ16.2.1 45) := by rw [show (J_bp (τ16.2.1 44) (τ16.2.1 45)) = (J_bp (σ.2.1 44) (σ.2.1 45)) from by rw [g44_τ16, g45_τ16]]; exact BP
    have CH : j_eq (σ.2.1 36 (σ.1 15)) (σ.2.1 37) (τ16.2.1 37) := by rw [show (j_eq (σ.2.1 36 (σ.1 15)) (σ.2.1 37) (τ16.2.1 37)) = (j_eq (σ.2.1 36 (σ.1 15)) (σ.2.1 37) (σ.2.1 37)) from by rw [g37_τ16]]; exact CH
    have A2 : ∀ j, 0 ≤ τ16.2.1 2 j ∧ τ16.2.1 2 j ≤ 65535 := fun j => hT.2 2 j
    have A3 : ∀ j, 0 ≤ τ16.2.1 3 j ∧ τ16.2.1 3 j ≤ 30000 := fun j => hT.2 3 j
    have A4 : ∀ j, (-1000) ≤ τ16.2.1 4 j ∧ τ16.2.1 4 j ≤ 1499 := fun j => hT.2 4 j
    have A5 : ∀ j, 0 ≤ τ16.2.1 5 j ∧ τ16.2.1 5 j ≤ 2500 := fun j => hT.2 5 j
    have A6 : ∀ j, 0 ≤ τ16.2.1 6 j ∧ τ16.2.1 6 j ≤ 2500 := fun j => hT.2 6 j
    have A8 : ∀ j, 0 ≤ τ16.2.1 8 j ∧ τ16.2.1 8 j ≤ 1 := fun j => hT.2 8 j
    have A9 : ∀ j, (-1) ≤ τ16.2.1 9 j ∧ τ16.2.1 9 j ≤ 1499 := fun j => hT.2 9 j
    have A10 : ∀ j, (-1) ≤ τ16.2.1 10 j ∧ τ16.2.1 10 j ≤ 99 := fun j => hT.2 10 j
    have A11 : ∀ j, 0 ≤ τ16.2.1 11 j ∧ τ16.2.1 11 j ≤ 999 := fun j => hT.2 11 j
    have A13 : ∀ j, 0 ≤ τ16.2.1 13 j ∧ τ16.2.1 13 j ≤ 4 := fun j => hT.2 13 j
    have A14 : ∀ j, 0 ≤ τ16.2.1 14 j ∧ τ16.2.1 14 j ≤ 30000 := fun j => hT.2 14 j
    have A15 : ∀ j, 0 ≤ τ16.2.1 15 j ∧ τ16.2.1 15 j ≤ 999 := fun j => hT.2 15 j
    have A16 : ∀ j, (-1) ≤ τ16.2.1 16 j ∧ τ16.2.1 16 j ≤ 1499 := fun j => hT.2 16 j
    have A18 : ∀ j, 0 ≤ τ16.2.1 18 j ∧ τ16.2.1 18 j ≤ 1 := fun j => hT.2 18 j
    have A19 : ∀ j, (-1) ≤ τ16.2.1 19 j ∧ τ16.2.1 19 j ≤ 1499 := fun j => hT.2 19 j
    have A20 : ∀ j, 0 ≤ τ16.2.1 20 j ∧ τ16.2.1 20 j ≤ 999 := fun j => hT.2 20 j
    have A22 : ∀ j, 0 ≤ τ16.2.1 22 j ∧ τ16.2.1 22 j ≤ 1499 := fun j => hT.2 22 j
    have A23 : ∀ j, 0 ≤ τ16.2.1 23 j ∧ τ16.2.1 23 j ≤ 999 := fun j => hT.2 23 j
    have A24 : ∀ j, 0 ≤ τ16.2.1 24 j ∧ τ16.2.1 24 j ≤ 999 := fun j => hT.2 24 j
    have A26 : ∀ j, (-2147483648) ≤ τ16.2.1 26 j ∧ τ16.2.1 26 j ≤ 2147483647 := fun j => hT.2 26 j
    have A27 : ∀ j, 0 ≤ τ16.2.1 27 j ∧ τ16.2.1 27 j ≤ 90000 := fun j => hT.2 27 j
    have A28 : ∀ j, 0 ≤ τ16.2.1 28 j ∧ τ16.2.1 28 j ≤ 60 := fun j => hT.2 28 j
    have A29 : ∀ j, 0 ≤ τ16.2.1 29 j ∧ τ16.2.1 29 j ≤ 1499 := fun j => hT.2 29 j
    have A30 : ∀ j, 0 ≤ τ16.2.1 30 j ∧ τ16.2.1 30 j ≤ 20000 := fun j => hT.2 30 j
    have A31 : ∀ j, 0 ≤ τ16.2.1 31 j ∧ τ16.2.1 31 j ≤ 20000 := fun j => hT.2 31 j
    have A32 : ∀ j, 0 ≤ τ16.2.1 32 j ∧ τ16.2.1 32 j ≤ 999999 := fun j => hT.2 32 j
    have A33 : ∀ j, 0 ≤ τ16.2.1 33 j ∧ τ16.2.1 33 j ≤ 20000 := fun j => hT.2 33 j
    have A34 : ∀ j, 0 ≤ τ16.2.1 34 j ∧ τ16.2.1 34 j ≤ 20000 := fun j => hT.2 34 j
    have A35 : ∀ j, 0 ≤ τ16.2.1 35 j ∧ τ16.2.1 35 j ≤ 1499 := fun j => hT.2 35 j
    have A36 : ∀ j, 0 ≤ τ16.2.1 36 j ∧ τ16.2.1 36 j ≤ 20000 := fun j => hT.2 36 j
    have A37 : ∀ j, 0 ≤ τ16.2.1 37 j ∧ τ16.2.1 37 j ≤ 19999 := fun j => hT.2 37 j
    have A44 : ∀ j, 0 ≤ τ16.2.1 44 j ∧ τ16.2.1 44 j ≤ 42000 := fun j => hT.2 44 j
    have A45 : ∀ j, 0 ≤ τ16.2.1 45 j ∧ τ16.2.1 45 j ≤ 1000 := fun j => hT.2 45 j
    have A49 : ∀ j, (-300) ≤ τ16.2.1 49 j ∧ τ16.2.1 49 j ≤ 67035 := fun j => hT.2 49 j
    have A51 : ∀ j, 0 ≤ τ16.2.1 51 j ∧ τ16.2.1 51 j ≤ 1499 := fun j => hT.2 51 j
    have A54 : ∀ j, 0 ≤ τ16.2.1 54 j ∧ τ16.2.1 54 j ≤ 999 := fun j => hT.2 54 j
    have v3 : 0 ≤ τ16.1 3 ∧ τ16.1 3 ≤ 2500 := hT.1 3
    have v4 : 0 ≤ τ16.1 4 ∧ τ16.1 4 ≤ 100 := hT.1 4
    have v5 : 0 ≤ τ16.1 5 ∧ τ16.1 5 ≤ 1000 := hT.1 5
    have v6 : 0 ≤ τ16.1 6 ∧ τ16.1 6 ≤ 30000 := hT.1 6
    have v7 : 0 ≤ τ16.1 7 ∧ τ16.1 7 ≤ 1500 := hT.1 7
    have v8 : 0 ≤ τ16.1 8 ∧ τ16.1 8 ≤ 1000 := hT.1 8
    have v9 : 0 ≤ τ16.1 9 ∧ τ16.1 9 ≤ 1500 := hT.1 9
    have v10 : 0 ≤ τ16.1 10 ∧ τ16.1 10 ≤ 1000 := hT.1 10
    have v11 : 0 ≤ τ16.1 11 ∧ τ16.1 11 ≤ 50 := hT.1 11
    have v12 : (-2147483648) ≤ τ16.1 12 ∧ τ16.1 12 ≤ 2147483647 := hT.1 12
    have v13 : 0 ≤ τ16.1 13 ∧ τ16.1 13 ≤ 90000 := hT.1 13
    have v14 : 0 ≤ τ16.1 14 ∧ τ16.1 14 ≤ 20000 := hT.1 14
    have v15 : 0 ≤ τ16.1 15 ∧ τ16.1 15 ≤ 20000 := hT.1 15
    have v16 : 0 ≤ τ16.1 16 ∧ τ16.1 16 ≤ 20000 := hT.1 16
    have v21 : 0 ≤ τ16.1 21 ∧ τ16.1 21 ≤ 20000 := hT.1 21
    have v22 : 0 ≤ τ16.1 22 ∧ τ16.1 22 ≤ 300 := hT.1 22
    have v23 : 0 ≤ τ16.1 23 ∧ τ16.1 23 ≤ 300 := hT.1 23
    have v24 : 0 ≤ τ16.1 24 ∧ τ16.1 24 ≤ 1499 := hT.1 24
    have v25 : 0 ≤ τ16.1 25 ∧ τ16.1 25 ≤ 3 := hT.1 25
    have v26 : 0 ≤ τ16.1 26 ∧ τ16.1 26 ≤ 5000010 := hT.1 26
    have v27 : 0 ≤ τ16.1 27 ∧ τ16.1 27 ≤ 1 := hT.1 27
    have v35 : 0 ≤ τ16.1 35 ∧ τ16.1 35 ≤ 7 := hT.1 35
    have v36 : 0 ≤ τ16.1 36 ∧ τ16.1 36 ≤ 1001 := hT.1 36
    have v37 : 0 ≤ τ16.1 37 ∧ τ16.1 37 ≤ 4 := hT.1 37
    have v38 : (-1) ≤ τ16.1 38 ∧ τ16.1 38 ≤ 999 := hT.1 38
    have v66 : 0 ≤ τ16.1 66 ∧ τ16.1 66 ≤ 1 := hT.1 66
    have a14_7 : 0 ≤ τ16.2.1 14 (τ16.1 7) ∧ τ16.2.1 14 (τ16.1 7) ≤ 30000 := hT.2 14 _
    have a36_15 : 0 ≤ τ16.2.1 36 (τ16.1 15) ∧ τ16.2.1 36 (τ16.1 15) ≤ 20000 := hT.2 36 _
    have av3 : σ.1 3 ≤ τ16.1 3 := ag.1 3 (by decide)
    have av5 : σ.1 5 ≤ τ16.1 5 := ag.1 5 (by decide)
    have av6 : σ.1 6 ≤ τ16.1 6 := ag.1 6 (by decide)
    have a14 := ag_k ag 14 7 1 (by decide) (σ.1 7) (by omega)
    exact ⟨hT, (show 0 ≤ x15 ∧ x15 ≤ 19 from by (first | assumption | omega | (simp only [st_s] <;> omega) | fail)), (show J_ht (τ16.1 3) (τ16.2.1 2) (τ16.2.1 3) (τ16.2.1 5) (τ16.2.1 6) from HT), (show J_mn (τ16.1 3) (τ16.1 5) ((τ16.1 7) + 1) (τ16.2.1 4) from MN), (show J_rks (τ16.1 5) (τ16.1 4) (τ16.2.1 10) (τ16.2.1 11) from RKS), (show J_vs (τ16.1 8) (τ16.1 5) (τ16.2.1 20) from VS), (show J_vs (τ16.1 6) (τ16.1 5) (τ16.2.1 15) from TX), (show J_va (τ16.1 8) 1000 (τ16.2.1 18) (τ16.2.1 20) from VA), (show J_mk (τ16.1 11) (τ16.1 8) (τ16.1 9) (τ16.1 10) (τ16.2.1 25) from MK), (show J_sc (τ16.1 7) (τ16.1 9) (τ16.2.1 13) (τ16.2.1 14) (τ16.2.1 15) (τ16.2.1 16) (τ16.2.1 22) (τ16.2.1 19) from by (first | exact SC | exact c_S_ag SC_0 CJ_0 hT0 ag W9 G22 G19 | fail)), (show J_ff (τ16.1 5) (τ16.1 7) (τ16.2.1 9) (τ16.2.1 13) (τ16.2.1 14) (τ16.2.1 15) from by (first | exact FF | exact c_F_ag FF_0 CJ_0 ag (by omega) G9 | fail)), (show ∀ s : Int, τ16.2.1 26 s ≤ (τ16.1 12) from MT), (show J_all (τ16.1 7) (τ16.1 6) (τ16.1 13) (τ16.1 14) (τ16.1 15) (τ16.2.1 13) (τ16.2.1 14) (τ16.2.1 15) (τ16.2.1 16) (τ16.2.1 10) (τ16.2.1 27) (τ16.2.1 28) (τ16.2.1 29) (τ16.2.1 30) (τ16.2.1 31) (τ16.2.1 32) (τ16.2.1 33) (τ16.2.1 34) (τ16.2.1 35) (τ16.2.1 36) (τ16.2.1 37) from by (first | exact CJ | exact c_J_ag CJ_0 hT0 ag (by omega) (first | exact j_rr0 _ _ | (rw [G10]; exact j_rr0 _ _) | exact q5_8 | exact q8_10 | exact q14_4) TX_0 CH (by omega) | fail)), (show J_bp (τ16.2.1 44) (τ16.2.1 45) from BP), (show J_nl (τ16.1 3) (τ16.2.1 2) (τ16.2.1 3) (τ16.2.1 4) from NL), (show x15 = 0 → J_rs (τ16.1 35) (τ16.1 7) (τ16.1 6) (τ16.1 36) (τ16.1 37) (τ16.1 5) (τ16.1 8) (τ16.2.1 14) from by (first | (intro z; exfalso; omega) | (intro z; have w := q2_2 z; unfold J_rs; omega) | (intro z; have w := q5_9 z; unfold J_rs; omega) | (intro z; have w := q8_11 z; unfold J_rs; omega) | (intro z; have w1 := q14_5 z; have w2 := q14_7 z; have w3 := q14_8 z; rw [show τ16.1 7 = σ.1 7 from by omega] at w1; unfold J_rs; rw [show τ16.1 7 = σ.1 7 from by omega]; omega) | (intro z; unfold J_rs; omega) | fail)), (show x15 = 0 → 5 ≤ (τ16.1 35) → 1 ≤ (τ16.1 36) → 0 ≤ τ16.2.1 10 (τ16.2.1 15 (τ16.2.1 14 (τ16.1 7))) from by (first | (intro z; exfalso; omega) | (intro z y; exfalso; omega) | (intro z y y2; exact q14_6 z) | fail)), (show x15 = 0 → (τ16.1 35) = 4 → j_in (τ16.1 36) 1000 (τ16.2.1 54) from by (first | (intro z; exfalso; omega) | (intro z y; exfalso; omega) | (intro z y; exact q11_2 z) | fail)), (show x15 = 0 → 5 ≤ (τ16.1 35) → J_ip (τ16.1 7) (τ16.1 6) (τ16.1 37) (τ16.2.1 14) (τ16.2.1 15) (τ16.2.1 16) (τ16.2.1 19) from by (first | (intro z; exfalso; omega) | (intro z y; exfalso; omega) | (intro z y; exact q14_9 z) | fail)), (show x15 = 0 → ((τ16.1 35) ≤ 5 → (τ16.1 13) ≤ 60 * (τ16.1 7)) ∧ (τ16.1 13) ≤ 60 * (τ16.1 7) + 60 from by (intro z; omega)), (show x15 = 0 → 6 ≤ (τ16.1 35) → (τ16.1 24) = (τ16.1 7) ∧ J_f (τ16.1 7) (τ16.1 13) (τ16.1 14) (τ16.2.1 13) (τ16.2.1 14) (τ16.2.1 15) (τ16.2.1 16) (τ16.2.1 27) (τ16.2.1 28) (τ16.2.1 29) (τ16.2.1 30) (τ16.2.1 31) (τ16.2.1 32) from by (first | (intro z; exfalso; omega) | (intro z y; exfalso; omega) | exact fun _ => frx | (intro z y; exact frx (by omega)) | (intro z y; have w := frx (by omega); rw [W7, W13, W14, W24, G13, G14, G15, G16, G27, G28, G29, G30, G31, G32]; exact w) | fail)), (show x15 = 0 → 6 ≤ (τ16.1 35) → J_sp (τ16.1 24) (τ16.1 21) (τ16.1 23) (τ16.1 22) (τ16.2.1 49) (τ16.2.1 51) ∧ ((τ16.1 16) + (τ16.1 21) ≤ 20000) ∧ (¬ (τ16.1 27) = 0 → 1 ≤ (τ16.1 21) ∧ 0 ≤ τ16.2.1 49 ((τ16.1 21) - 1) ∧ τ16.2.1 49 ((τ16.1 21) - 1) < 65536) ∧ ((τ16.1 26) ≤ 1000000) ∧ ((τ16.1 25) ≤ 2 → (τ16.1 27) = 0) from by (first | (intro z; exfalso; omega) | (intro z y; exfalso; omega) | exact fun _ => spx | (intro z y; exact spx (by omega)) | fail)), (show x15 = 0 → (τ16.1 15) ≤ (τ16.1 16) ∧ τ16.2.1 36 (τ16.1 15) ≤ (τ16.1 16) from by (intro z; first | exact sux | omega)), (show x15 = 0 → (τ16.1 9) ≤ (τ16.1 7) from by (intro z; omega)), (show j_rr ((σ.1 5)) (σ.2.1 10) (τ16.2.1 10) from by (first | exact j_rr0 _ _ | (rw [G10]; exact j_rr0 _ _) | exact q5_8 | exact q8_10 | exact q14_4 | fail)), (show j_eq (σ.2.1 36 (σ.1 15)) (σ.2.1 37) (τ16.2.1 37) from CH), (show (τ16.1 12) ≤ (σ.1 12) + 1 from by (first | assumption | omega | (simp only [st_s] <;> omega) | fail)), (show c_Y σ τ16 from by (first | exact c_Y0 _ | exact q8_12 | exact q14_10 | exact c_Y_g W4 G11 G20 G22 G25 | exact c_Y_g (by omega) (by rw [g11_τ4]) (by rw [g20_τ4]) (by rw [g22_τ4]) (by rw [g25_τ4]) | exact c_Y_g (by omega) (by rw [g11_τ7]) (by rw [g20_τ7]) (by rw [g22_τ7]) (by rw [g25_τ7]) | exact c_Y_g (by omega) (by rw [g11_τ13]) (by rw [g20_τ13]) (by rw [g22_τ13]) (by rw [g25_τ13]) | fail)), ag⟩
set_option maxHeartbeats 4000000 in
theorem K_X7_proof {σ : S0} (hT : c_T σ) (p1 : J_ht (σ.1 3) (σ.2.1 2) (σ.2.1 3) (σ.2.1 5) (σ.2.1 6)) (p2 : J_mn (σ.1 3) (σ.1 5) ((σ.1 7) + 1) (σ.2.1 4)) (p3 : J_rks (σ.1 5) (σ.1 4) (σ.2.1 10) (σ.2.1 11)) (p4 : J_vs (σ.1 8) (σ.1 5) (σ.2.1 20)) (p5 : J_vs (σ.1 6) (σ.1 5) (σ.2.1 15)) (p6 : J_va (σ.1 8) 1000 (σ.2.1 18) (σ.2.1 20)) (p7 : J_mk (σ.1 11) (σ.1 8) (σ.1 9) (σ.1 10) (σ.2.1 25)) (p8 : J_sc (σ.1 7) (σ.1 9) (σ.2.1 13) (σ.2.1 14) (σ.2.1 15) (σ.2.1 16) (σ.2.1 22) (σ.2.1 19)) (p9 : J_ff (σ.1 5) (σ.1 7) (σ.2.1 9) (σ.2.1 13) (σ.2.1 14) (σ.2.1 15)) (p10 : ∀ s : Int, σ.2.1 26 s ≤ (σ.1 12)) (p11 : J_all (σ.1 7) (σ.1 6) (σ.1 13) (σ.1 14) (σ.1 15) (σ.2.1 13) (σ.2.1 14) (σ.2.1 15) (σ.2.1 16) (σ.2.1 10) (σ.2.1 27) (σ.2.1 28) (σ.2.1 29) (σ.2.1 30) (σ.2.1 31) (σ.2.1 32) (σ.2.1 33) (σ.2.1 34) (σ.2.1 35) (σ.2.1 36) (σ.2.1 37)) (p12 : J_bp (σ.2.1 44) (σ.2.1 45)) (p13 : J_nl (σ.1 3) (σ.2.1 2) (σ.2.1 3) (σ.2.1 4)) (p14 : J_rs (σ.1 35) (σ.1 7) (σ.1 6) (σ.1 36) (σ.1 37) (σ.1 5) (σ.1 8) (σ.2.1 14)) (p15 : 5 ≤ (σ.1 35) → 1 ≤ (σ.1 36) → 0 ≤ σ.2.1 10 (σ.2.1 15 (σ.2.1 14 (σ.1 7)))) (p16 : (σ.1 35) = 4 → j_in (σ.1 36) 1000 (σ.2.1 54)) (p17 : 5 ≤ (σ.1 35) → J_ip (σ.1 7) (σ.1 6) (σ.1 37) (σ.2.1 14) (σ.2.1 15) (σ.2.1 16) (σ.2.1 19)) (p18 : ((σ.1 35) ≤ 5 → (σ.1 13) ≤ 60 * (σ.1 7)) ∧ (σ.1 13) ≤ 60 * (σ.1 7) + 60) (p19 : 6 ≤ (σ.1 35) → (σ.1 24) = (σ.1 7) ∧ J_f (σ.1 7) (σ.1 13) (σ.1 14) (σ.2.1 13) (σ.2.1 14) (σ.2.1 15) (σ.2.1 16) (σ.2.1 27) (σ.2.1 28) (σ.2.1 29) (σ.2.1 30) (σ.2.1 31) (σ.2.1 32)) (p20 : 6 ≤ (σ.1 35) → J_sp (σ.1 24) (σ.1 21) (σ.1 23) (σ.1 22) (σ.2.1 49) (σ.2.1 51) ∧ ((σ.1 16) + (σ.1 21) ≤ 20000) ∧ (¬ (σ.1 27) = 0 → 1 ≤ (σ.1 21) ∧ 0 ≤ σ.2.1 49 ((σ.1 21) - 1) ∧ σ.2.1 49 ((σ.1 21) - 1) < 65536) ∧ ((σ.1 26) ≤ 1000000) ∧ ((σ.1 25) ≤ 2 → (σ.1 27) = 0)) (p21 : (σ.1 15) ≤ (σ.1 16) ∧ σ.2.1 36 (σ.1 15) ≤ (σ.1 16)) (p22 : (σ.1 9) ≤ (σ.1 7)) (p23 : (σ.1 12) < 2147483647) : W_X7_proof σ (fun (x : Int) (τ : S0) => (c_T τ) ∧ (0 ≤ x ∧ x ≤ 19) ∧ (J_ht (τ.1 3) (τ.2.1 2) (τ.2.1 3) (τ.2.1 5) (τ.2.1 6)) ∧ (J_mn (τ.1 3) (τ.1 5) ((τ.1 7) + 1) (τ.2.1 4)) ∧ (J_rks (τ.1 5) (τ.1 4) (τ.2.1 10) (τ.2.1 11)) ∧ (J_vs (τ.1 8) (τ.1 5) (τ.2.1 20)) ∧ (J_vs (τ.1 6) (τ.1 5) (τ.2.1 15)) ∧ (J_va (τ.1 8) 1000 (τ.2.1 18) (τ.2.1 20)) ∧ (J_mk (τ.1 11) (τ.1 8) (τ.1 9) (τ.1 10) (τ.2.1 25)) ∧ (J_sc (τ.1 7) (τ.1 9) (τ.2.1 13) (τ.2.1 14) (τ.2.1 15) (τ.2.1 16) (τ.2.1 22) (τ.2.1 19)) ∧ (J_ff (τ.1 5) (τ.1 7) (τ.2.1 9) (τ.2.1 13) (τ.2.1 14) (τ.2.1 15)) ∧ (∀ s : Int, τ.2.1 26 s ≤ (τ.1 12)) ∧ (J_all (τ.1 7) (τ.1 6) (τ.1 13) (τ.1 14) (τ.1 15) (τ.2.1 13) (τ.2.1 14) (τ.2.1 15) (τ.2.1 16) (τ.2.1 10) (τ.2.1 27) (τ.2.1 28) (τ.2.1 29) (τ.2.1 30) (τ.2.1 31) (τ.2.1 32) (τ.2.1 33) (τ.2.1 34) (τ.2.1 35) (τ.2.1 36) (τ.2.1 37)) ∧ (J_bp (τ.2.1 44) (τ.2.1 45)) ∧ (J_nl (τ.1 3) (τ.2.1 2) (τ.2.1 3) (τ.2.1 4)) ∧ (x = 0 → J_rs (τ.1 35) (τ.1 7) (τ.1 6) (τ.1 36) (τ.1 37) (τ.1 5) (τ.1 8) (τ.2.1 14)) ∧ (x = 0 → 5 ≤ (τ.1 35) → 1 ≤ (τ.1 36) → 0 ≤ τ.2.1 10 (τ.2.1 15 (τ.2.1 14 (τ.1 7)))) ∧ (x = 0 → (τ.1 35) = 4 → j_in (τ.1 36) 1000 (τ.2.1 54)) ∧ (x = 0 → 5 ≤ (τ.1 35) → J_ip (τ.1 7) (τ.1 6) (τ.1 37) (τ.2.1 14) (τ.2.1 15) (τ.2.1 16) (τ.2.1 19)) ∧ (x = 0 → ((τ.1 35) ≤ 5 → (τ.1 13) ≤ 60 * (τ.1 7)) ∧ (τ.1 13) ≤ 60 * (τ.1 7) + 60) ∧ (x = 0 → 6 ≤ (τ.1 35) → (τ.1 24) = (τ.1 7) ∧ J_f (τ.1 7) (τ.1 13) (τ.1 14) (τ.2.1 13) (τ.2.1 14) (τ.2.1 15) (τ.2.1 16) (τ.2.1 27) (τ.2.1 28) (τ.2.1 29) (τ.2.1 30) (τ.2.1 31) (τ.2.1 32)) ∧ (x = 0 → 6 ≤ (τ.1 35) → J_sp (τ.1 24) (τ.1 21) (τ.1 23) (τ.1 22) (τ.2.1 49) (τ.2.1 51) ∧ ((τ.1 16) + (τ.1 21) ≤ 20000) ∧ (¬ (τ.1 27) = 0 → 1 ≤ (τ.1 21) ∧ 0 ≤ τ.2.1 49 ((τ.1 21) - 1) ∧ τ.2.1 49 ((τ.1 21) - 1) < 65536) ∧ ((τ.1 26) ≤ 1000000) ∧ ((τ.1 25) ≤ 2 → (τ.1 27) = 0)) ∧ (x = 0 → (τ.1 15) ≤ (τ.1 16) ∧ τ.2.1 36 (τ.1 15) ≤ (τ.1 16)) ∧ (x = 0 → (τ.1 9) ≤ (τ.1 7)) ∧ (j_rr ((σ.1 5)) (σ.2.1 10) (τ.2.1 10)) ∧ (j_eq (σ.2.1 36 (σ.1 15)) (σ.2.1 37) (τ.2.1 37)) ∧ ((τ.1 12) ≤ (σ.1 12) + 1) ∧ (c_Y σ τ) ∧ (c_ag σ τ)) := by
  have A2 : ∀ j, 0 ≤ σ.2.1 2 j ∧ σ.2.1 2 j ≤ 65535 := fun j => hT.2 2 j
  have A3 : ∀ j, 0 ≤ σ.2.1 3 j ∧ σ.2.1 3 j ≤ 30000 := fun j => hT.2 3 j
  have A4 : ∀ j, (-1000) ≤ σ.2.1 4 j ∧ σ.2.1 4 j ≤ 1499 := fun j => hT.2 4 j
  have A5 : ∀ j, 0 ≤ σ.2.1 5 j ∧ σ.2.1 5 j ≤ 2500 := fun j => hT.2 5 j
  have A6 : ∀ j, 0 ≤ σ.2.1 6 j ∧ σ.2.1 6 j ≤ 2500 := fun j => hT.2 6 j
  have A8 : ∀ j, 0 ≤ σ.2.1 8 j ∧ σ.2.1 8 j ≤ 1 := fun j => hT.2 8 j
  have A9 : ∀ j, (-1) ≤ σ.2.1 9 j ∧ σ.2.1 9 j ≤ 1499 := fun j => hT.2 9 j
  have A10 : ∀ j, (-1) ≤ σ.2.1 10 j ∧ σ.2.1 10 j ≤ 99 := fun j => hT.2 10 j
  have A11 : ∀ j, 0 ≤ σ.2.1 11 j ∧ σ.2.1 11 j ≤ 999 := fun j => hT.2 11 j
  have A13 : ∀ j, 0 ≤ σ.2.1 13 j ∧ σ.2.1 13 j ≤ 4 := fun j => hT.2 13 j
  have A14 : ∀ j, 0 ≤ σ.2.1 14 j ∧ σ.2.1 14 j ≤ 30000 := fun j => hT.2 14 j
  have A15 : ∀ j, 0 ≤ σ.2.1 15 j ∧ σ.2.1 15 j ≤ 999 := fun j => hT.2 15 j
  have A16 : ∀ j, (-1) ≤ σ.2.1 16 j ∧ σ.2.1 16 j ≤ 1499 := fun j => hT.2 16 j
  have A18 : ∀ j, 0 ≤ σ.2.1 18 j ∧ σ.2.1 18 j ≤ 1 := fun j => hT.2 18 j
  have A19 : ∀ j, (-1) ≤ σ.2.1 19 j ∧ σ.2.1 19 j ≤ 1499 := fun j => hT.2 19 j
  have A20 : ∀ j, 0 ≤ σ.2.1 20 j ∧ σ.2.1 20 j ≤ 999 := fun j => hT.2 20 j
  have A22 : ∀ j, 0 ≤ σ.2.1 22 j ∧ σ.2.1 22 j ≤ 1499 := fun j => hT.2 22 j
  have A23 : ∀ j, 0 ≤ σ.2.1 23 j ∧ σ.2.1 23 j ≤ 999 := fun j => hT.2 23 j
  have A24 : ∀ j, 0 ≤ σ.2.1 24 j ∧ σ.2.1 24 j ≤ 999 := fun j => hT.2 24 j
  have A26 : ∀ j, (-2147483648) ≤ σ.2.1 26 j ∧ σ.2.1 26 j ≤ 2147483647 := fun j => hT.2 26 j
  have A27 : ∀ j, 0 ≤ σ.2.1 27 j ∧ σ.2.1 27 j ≤ 90000 := fun j => hT.2 27 j
  have A28 : ∀ j, 0 ≤ σ.2.1 28 j ∧ σ.2.1 28 j ≤ 60 := fun j => hT.2 28 j
  have A29 : ∀ j, 0 ≤ σ.2.1 29 j ∧ σ.2.1 29 j ≤ 1499 := fun j => hT.2 29 j
  have A30 : ∀ j, 0 ≤ σ.2.1 30 j ∧ σ.2.1 30 j ≤ 20000 := fun j => hT.2 30 j
  have A31 : ∀ j, 0 ≤ σ.2.1 31 j ∧ σ.2.1 31 j ≤ 20000 := fun j => hT.2 31 j
  have A32 : ∀ j, 0 ≤ σ.2.1 32 j ∧ σ.2.1 32 j ≤ 999999 := fun j => hT.2 32 j
  have A33 : ∀ j, 0 ≤ σ.2.1 33 j ∧ σ.2.1 33 j ≤ 20000 := fun j => hT.2 33 j
  have A34 : ∀ j, 0 ≤ σ.2.1 34 j ∧ σ.2.1 34 j ≤ 20000 := fun j => hT.2 34 j
  have A35 : ∀ j, 0 ≤ σ.2.1 35 j ∧ σ.2.1 35 j ≤ 1499 := fun j => hT.2 35 j
  have A36 : ∀ j, 0 ≤ σ.2.1 36 j ∧ σ.2.1 36 j ≤ 20000 := fun j => hT.2 36 j
  have A37 : ∀ j, 0 ≤ σ.2.1 37 j ∧ σ.2.1 37 j ≤ 19999 := fun j => hT.2 37 j
  have A44 : ∀ j, 0 ≤ σ.2.1 44 j ∧ σ.2.1 44 j ≤ 42000 := fun j => hT.2 44 j
  have A45 : ∀ j, 0 ≤ σ.2.1 45 j ∧ σ.2.1 45 j ≤ 1000 := fun j => hT.2 45 j
  have A49 : ∀ j, (-300) ≤ σ.2.1 49 j ∧ σ.2.1 49 j ≤ 67035 := fun j => hT.2 49 j
  have A51 : ∀ j, 0 ≤ σ.2.1 51 j ∧ σ.2.1 51 j ≤ 1499 := fun j => hT.2 51 j
  have A54 : ∀ j, 0 ≤ σ.2.1 54 j ∧ σ.2.1 54 j ≤ 999 := fun j => hT.2 54 j
  have v3 : 0 ≤ σ.1 3 ∧ σ.1 3 ≤ 2500 := hT.1 3
  have v4 : 0 ≤ σ.1 4 ∧ σ.1 4 ≤ 100 := hT.1 4
  have v5 : 0 ≤ σ.1 5 ∧ σ.1 5 ≤ 1000 := hT.1 5
  have v6 : 0 ≤ σ.1 6 ∧ σ.1 6 ≤ 30000 := hT.1 6
  have v7 : 0 ≤ σ.1 7 ∧ σ.1 7 ≤ 1500 := hT.1 7
  have v8 : 0 ≤ σ.1 8 ∧ σ.1 8 ≤ 1000 := hT.1 8
  have v9 : 0 ≤ σ.1 9 ∧ σ.1 9 ≤ 1500 := hT.1 9
  have v10 : 0 ≤ σ.1 10 ∧ σ.1 10 ≤ 1000 := hT.1 10
  have v11 : 0 ≤ σ.1 11 ∧ σ.1 11 ≤ 50 := hT.1 11
  have v12 : (-2147483648) ≤ σ.1 12 ∧ σ.1 12 ≤ 2147483647 := hT.1 12
  have v13 : 0 ≤ σ.1 13 ∧ σ.1 13 ≤ 90000 := hT.1 13
  have v14 : 0 ≤ σ.1 14 ∧ σ.1 14 ≤ 20000 := hT.1 14
  have v15 : 0 ≤ σ.1 15 ∧ σ.1 15 ≤ 20000 := hT.1 15
  have v16 : 0 ≤ σ.1 16 ∧ σ.1 16 ≤ 20000 := hT.1 16
  have v21 : 0 ≤ σ.1 21 ∧ σ.1 21 ≤ 20000 := hT.1 21
  have v22 : 0 ≤ σ.1 22 ∧ σ.1 22 ≤ 300 := hT.1 22
  have v23 : 0 ≤ σ.1 23 ∧ σ.1 23 ≤ 300 := hT.1 23
  have v24 : 0 ≤ σ.1 24 ∧ σ.1 24 ≤ 1499 := hT.1 24
  have v25 : 0 ≤ σ.1 25 ∧ σ.1 25 ≤ 3 := hT.1 25
  have v26 : 0 ≤ σ.1 26 ∧ σ.1 26 ≤ 5000010 := hT.1 26
  have v27 : 0 ≤ σ.1 27 ∧ σ.1 27 ≤ 1 := hT.1 27
  have v35 : 0 ≤ σ.1 35 ∧ σ.1 35 ≤ 7 := hT.1 35
  have v36 : 0 ≤ σ.1 36 ∧ σ.1 36 ≤ 1001 := hT.1 36
  have v37 : 0 ≤ σ.1 37 ∧ σ.1 37 ≤ 4 := hT.1 37
  have a14_7 : 0 ≤ σ.2.1 14 (σ.1 7) ∧ σ.2.1 14 (σ.1 7) ≤ 30000 := hT.2 14 _
  have a36_15 : 0 ≤ σ.2.1 36 (σ.1 15) ∧ σ.2.1 36 (σ.1 15) ≤ 20000 := hT.2 36 _
  have W3 : σ.1 3 = σ.1 3 := rfl
  have W4 : σ.1 4 = σ.1 4 := rfl
  have W5 : σ.1 5 = σ.1 5 := rfl
  have W6 : σ.1 6 = σ.1 6 := rfl
  have W7 : σ.1 7 = σ.1 7 := rfl
  have W8 : σ.1 8 = σ.1 8 := rfl
  have W9 : σ.1 9 = σ.1 9 := rfl
  have W10 : σ.1 10 = σ.1 10 := rfl
  have W11 : σ.1 11 = σ.1 11 := rfl
  have W15 : σ.1 15 = σ.1 15 := rfl
  have W16 : σ.1 16 = σ.1 16 := rfl
  have W36 : σ.1 36 = σ.1 36 := rfl
  have W37 : σ.1 37 = σ.1 37 := rfl
  have G2 : σ.2.1 2 = σ.2.1 2 := rfl
  have G3 : σ.2.1 3 = σ.2.1 3 := rfl
  have G4 : σ.2.1 4 = σ.2.1 4 := rfl
  have G5 : σ.2.1 5 = σ.2.1 5 := rfl
  have G6 : σ.2.1 6 = σ.2.1 6 := rfl
  have G8 : σ.2.1 8 = σ.2.1 8 := rfl
  have G9 : σ.2.1 9 = σ.2.1 9 := rfl
  have G10 : σ.2.1 10 = σ.2.1 10 := rfl
  have G11 : σ.2.1 11 = σ.2.1 11 := rfl
  have G13 : σ.2.1 13 = σ.2.1 13 := rfl
  have G14 : σ.2.1 14 = σ.2.1 14 := rfl
  have G15 : σ.2.1 15 = σ.2.1 15 := rfl
  have G16 : σ.2.1 16 = σ.2.1 16 := rfl
  have G18 : σ.2.1 18 = σ.2.1 18 := rfl
  have G19 : σ.2.1 19 = σ.2.1 19 := rfl
  have G20 : σ.2.1 20 = σ.2.1 20 := rfl
  have G22 : σ.2.1 22 = σ.2.1 22 := rfl
  have G23 : σ.2.1 23 = σ.2.1 23 := rfl
  have G24 : σ.2.1 24 = σ.2.1 24 := rfl
  have G25 : σ.2.1 25 = σ.2.1 25 := rfl
  have G33 : σ.2.1 33 = σ.2.1 33 := rfl
  have G34 : σ.2.1 34 = σ.2.1 34 := rfl
  have G35 : σ.2.1 35 = σ.2.1 35 := rfl
  have G36 : σ.2.1 36 = σ.2.1 36 := rfl
  have G37 : σ.2.1 37 = σ.2.1 37 := rfl
  have G44 : σ.2.1 44 = σ.2.1 44 := rfl
  have G45 : σ.2.1 45 = σ.2.1 45 := rfl
  have G49 : σ.2.1 49 = σ.2.1 49 := rfl
  have G51 : σ.2.1 51 = σ.2.1 51 := rfl
  have G54 : σ.2.1 54 = σ.2.1 54 := rfl
  have ag : c_ag σ σ := ag_0 σ
  have hT0 := hT
  have t015 : ∀ p : Int, 0 ≤ σ.2.1 15 p ∧ σ.2.1 15 p < 1000 := fun p => ⟨(A15 p).1, by have := (A15 p).2; omega⟩
  have CH := j_eq0 (σ.2.1 36 (σ.1 15)) (σ.2.1 37)
  have jt := c_Jt p11
  have JFx := c_JF jt p8 (fun m => (hT.2 22 m).1) (by omega)
  have FPx := c_FP jt p9 (by omega)
  have uc := p15
  have dj := p16
  have ipx := p17
  have hux := p18
  have frx := p19
  have spx := p20
  have sux := p21
  have hcx := p22
  have rsx := p14
  unfold J_rs at rsx
  have HT : J_ht (σ.1 3) (σ.2.1 2) (σ.2.1 3) (σ.2.1 5) (σ.2.1 6) := p1
  have NL : J_nl (σ.1 3) (σ.2.1 2) (σ.2.1 3) (σ.2.1 4) := p13
  have MN : J_mn (σ.1 3) (σ.1 5) ((σ.1 7) + 1) (σ.2.1 4) := p2
  have VA : J_va (σ.1 8) 1000 (σ.2.1 18) (σ.2.1 20) := p6
  have SC : J_sc (σ.1 7) (σ.1 9) (σ.2.1 13) (σ.2.1 14) (σ.2.1 15) (σ.2.1 16) (σ.2.1 22) (σ.2.1 19) := p8
  have MK : J_mk (σ.1 11) (σ.1 8) (σ.1 9) (σ.1 10) (σ.2.1 25) := p7
  have FF : J_ff (σ.1 5) (σ.1 7) (σ.2.1 9) (σ.2.1 13) (σ.2.1 14) (σ.2.1 15) := p9
  have MT : ∀ s : Int, σ.2.1 26 s ≤ (σ.1 12) := p10
  have VS : J_vs (σ.1 8) (σ.1 5) (σ.2.1 20) := p4
  have TX : J_vs (σ.1 6) (σ.1 5) (σ.2.1 15) := p5
  have RKS : J_rks (σ.1 5) (σ.1 4) (σ.2.1 10) (σ.2.1 11) := p3
  have CJ : J_all (σ.1 7) (σ.1 6) (σ.1 13) (σ.1 14) (σ.1 15) (σ.2.1 13) (σ.2.1 14) (σ.2.1 15) (σ.2.1 16) (σ.2.1 10) (σ.2.1 27) (σ.2.1 28) (σ.2.1 29) (σ.2.1 30) (σ.2.1 31) (σ.2.1 32) (σ.2.1 33) (σ.2.1 34) (σ.2.1 35) (σ.2.1 36) (σ.2.1 37) := p11
  have BP : J_bp (σ.2.1 44) (σ.2.1 45) := p12
  have RS : J_rs (σ.1 35) (σ.1 7) (σ.1 6) (σ.1 36) (σ.1 37) (σ.1 5) (σ.1 8) (σ.2.1 14) := p14
  have BP_0 := BP
  have CH_0 := CH
  have CJ_0 := CJ
  have FF_0 := FF
  have HT_0 := HT
  have MK_0 := MK
  have MN_0 := MN
  have MT_0 := MT
  have NL_0 := NL
  have RKS_0 := RKS
  have RS_0 := RS
  have SC_0 := SC
  have TX_0 := TX
  have VA_0 := VA
  have VS_0 := VS
  unfold W_X7_proof
  refine ⟨fun c1 => ?_, fun c1 => ?_⟩
  ·
    exact ⟨hT, (show 0 ≤ 4 ∧ 4 ≤ 19 from by (first | assumption | omega | (simp only [st_s] <;> omega) | fail)), (show J_ht (σ.1 3) (σ.2.1 2) (σ.2.1 3) (σ.2.1 5) (σ.2.1 6) from HT), (show J_mn (σ.1 3) (σ.1 5) ((σ.1 7) + 1) (σ.2.1 4) from MN), (show J_rks (σ.1 5) (σ.1 4) (σ.2.1 10) (σ.2.1 11) from RKS), (show J_vs (σ.1 8) (σ.1 5) (σ.2.1 20) from VS), (show J_vs (σ.1 6) (σ.1 5) (σ.2.1 15) from TX), (show J_va (σ.1 8) 1000 (σ.2.1 18) (σ.2.1 20) from VA), (show J_mk (σ.1 11) (σ.1 8) (σ.1 9) (σ.1 10) (σ.2.1 25) from MK), (show J_sc (σ.1 7) (σ.1 9) (σ.2.1 13) (σ.2.1 14) (σ.2.1 15) (σ.2.1 16) (σ.2.1 22) (σ.2.1 19) from SC), (show J_ff (σ.1 5) (σ.1 7) (σ.2.1 9) (σ.2.1 13) (σ.2.1 14) (σ.2.1 15) from FF), (show ∀ s : Int, σ.2.1 26 s ≤ (σ.1 12) from MT), (show J_all (σ.1 7) (σ.1 6) (σ.1 13) (σ.1 14) (σ.1 15) (σ.2.1 13) (σ.2.1 14) (σ.2.1 15) (σ.2.1 16) (σ.2.1 10) (σ.2.1 27) (σ.2.1 28) (σ.2.1 29) (σ.2.1 30) (σ.2.1 31) (σ.2.1 32) (σ.2.1 33) (σ.2.1 34) (σ.2.1 35) (σ.2.1 36) (σ.2.1 37) from CJ), (show J_bp (σ.2.1 44) (σ.2.1 45) from BP), (show J_nl (σ.1 3) (σ.2.1 2) (σ.2.1 3) (σ.2.1 4) from NL), (show 4 = 0 → J_rs (σ.1 35) (σ.1 7) (σ.1 6) (σ.1 36) (σ.1 37) (σ.1 5) (σ.1 8) (σ.2.1 14) from by (first | (intro z; exfalso; omega) | (intro z; unfold J_rs; omega) | (intro z; unfold J_rs; rw [G14, W7]; omega) | fail)), (show 4 = 0 → 5 ≤ (σ.1 35) → 1 ≤ (σ.1 36) → 0 ≤ σ.2.1 10 (σ.2.1 15 (σ.2.1 14 (σ.1 7))) from by (first | (intro z; exfalso; omega) | (intro z y; exfalso; omega) | exact fun _ => uc | (intro z y y2; exact uc (by omega) (by omega)) | (intro z y y2; exfalso; omega) | (intro z y y2; rw [G10, G14, G15, W7]; exact uc (by omega) (by omega)) | fail)), (show 4 = 0 → (σ.1 35) = 4 → j_in (σ.1 36) 1000 (σ.2.1 54) from by (first | (intro z; exfalso; omega) | (intro z y; exfalso; omega) | exact fun _ => dj | fail)), (show 4 = 0 → 5 ≤ (σ.1 35) → J_ip (σ.1 7) (σ.1 6) (σ.1 37) (σ.2.1 14) (σ.2.1 15) (σ.2.1 16) (σ.2.1 19) from by (first | (intro z; exfalso; omega) | (intro z y; exfalso; omega) | exact fun _ => ipx | (intro z y; exact ipx (by omega)) | (intro z y; rw [W7, W6, W37, G14, G15, G16, G19]; exact ipx (by omega)) | fail)), (show 4 = 0 → ((σ.1 35) ≤ 5 → (σ.1 13) ≤ 60 * (σ.1 7)) ∧ (σ.1 13) ≤ 60 * (σ.1 7) + 60 from by (intro z; omega)), (show 4 = 0 → 6 ≤ (σ.1 35) → (σ.1 24) = (σ.1 7) ∧ J_f (σ.1 7) (σ.1 13) (σ.1 14) (σ.2.1 13) (σ.2.1 14) (σ.2.1 15) (σ.2.1 16) (σ.2.1 27) (σ.2.1 28) (σ.2.1 29) (σ.2.1 30) (σ.2.1 31) (σ.2.1 32) from by (first | (intro z; exfalso; omega) | (intro z y; refine ⟨by omega, ?_⟩; rw [w7_τ10, w13_τ10, w14_τ10, g13_τ10, g14_τ10, g15_τ10, g16_τ10, g27_τ10, g28_τ10, g29_τ10, g30_τ10, g31_τ10, g32_τ10, w7_τ6]; exact q4_7 c7) | fail)), (show 4 = 0 → 6 ≤ (σ.1 35) → J_sp (σ.1 24) (σ.1 21) (σ.1 23) (σ.1 22) (σ.2.1 49) (σ.2.1 51) ∧ ((σ.1 16) + (σ.1 21) ≤ 20000) ∧ (¬ (σ.1 27) = 0 → 1 ≤ (σ.1 21) ∧ 0 ≤ σ.2.1 49 ((σ.1 21) - 1) ∧ σ.2.1 49 ((σ.1 21) - 1) < 65536) ∧ ((σ.1 26) ≤ 1000000) ∧ ((σ.1 25) ≤ 2 → (σ.1 27) = 0) from by (first | (intro z; exfalso; omega) | (intro z y; refine ⟨?_, by omega, by omega, by omega, by omega⟩; rw [q8_2, q8_1, q8_5, q8_4]; exact J_sp0 _ _ _) | fail)), (show 4 = 0 → (σ.1 15) ≤ (σ.1 16) ∧ σ.2.1 36 (σ.1 15) ≤ (σ.1 16) from by (intro z; first | exact sux | omega)), (show 4 = 0 → (σ.1 9) ≤ (σ.1 7) from by (intro z; omega)), (show j_rr ((σ.1 5)) (σ.2.1 10) (σ.2.1 10) from by (first | exact j_rr0 _ _ | (rw [G10]; exact j_rr0 _ _) | fail)), (show j_eq (σ.2.1 36 (σ.1 15)) (σ.2.1 37) (σ.2.1 37) from CH), (show (σ.1 12) ≤ (σ.1 12) + 1 from by (first | assumption | omega | (simp only [st_s] <;> omega) | fail)), (show c_Y σ σ from by (first | exact c_Y0 _ | exact c_Y_g W4 G11 G20 G22 G25 | fail)), ag⟩
  ·
    refine ⟨fun c2 => ?_, fun c2 => ?_⟩
    ·
      exact ⟨hT, (show 0 ≤ 4 ∧ 4 ≤ 19 from by (first | assumption | omega | (simp only [st_s] <;> omega) | fail)), (show J_ht (σ.1 3) (σ.2.1 2) (σ.2.1 3) (σ.2.1 5) (σ.2.1 6) from HT), (show J_mn (σ.1 3) (σ.1 5) ((σ.1 7) + 1) (σ.2.1 4) from MN), (show J_rks (σ.1 5) (σ.1 4) (σ.2.1 10) (σ.2.1 11) from RKS), (show J_vs (σ.1 8) (σ.1 5) (σ.2.1 20) from VS), (show J_vs (σ.1 6) (σ.1 5) (σ.2.1 15) from TX), (show J_va (σ.1 8) 1000 (σ.2.1 18) (σ.2.1 20) from VA), (show J_mk (σ.1 11) (σ.1 8) (σ.1 9) (σ.1 10) (σ.2.1 25) from MK), (show J_sc (σ.1 7) (σ.1 9) (σ.2.1 13) (σ.2.1 14) (σ.2.1 15) (σ.2.1 16) (σ.2.1 22) (σ.2.1 19) from SC), (show J_ff (σ.1 5) (σ.1 7) (σ.2.1 9) (σ.2.1 13) (σ.2.1 14) (σ.2.1 15) from FF), (show ∀ s : Int, σ.2.1 26 s ≤ (σ.1 12) from MT), (show J_all (σ.1 7) (σ.1 6) (σ.1 13) (σ.1 14) (σ.1 15) (σ.2.1 13) (σ.2.1 14) (σ.2.1 15) (σ.2.1 16) (σ.2.1 10) (σ.2.1 27) (σ.2.1 28) (σ.2.1 29) (σ.2.1 30) (σ.2.1 31) (σ.2.1 32) (σ.2.1 33) (σ.2.1 34) (σ.2.1 35) (σ.2.1 36) (σ.2.1 37) from CJ), (show J_bp (σ.2.1 44) (σ.2.1 45) from BP), (show J_nl (σ.1 3) (σ.2.1 2) (σ.2.1 3) (σ.2.1 4) from NL), (show 4 = 0 → J_rs (σ.1 35) (σ.1 7) (σ.1 6) (σ.1 36) (σ.1 37) (σ.1 5) (σ.1 8) (σ.2.1 14) from by (first | (intro z; exfalso; omega) | (intro z; unfold J_rs; omega) | (intro z; unfold J_rs; rw [G14, W7]; omega) | fail)), (show 4 = 0 → 5 ≤ (σ.1 35) → 1 ≤ (σ.1 36) → 0 ≤ σ.2.1 10 (σ.2.1 15 (σ.2.1 14 (σ.1 7))) from by (first | (intro z; exfalso; omega) | (intro z y; exfalso; omega) | exact fun _ => uc | (intro z y y2; exact uc (by omega) (by omega)) | (intro z y y2; exfalso; omega) | (intro z y y2; rw [G10, G14, G15, W7]; exact uc (by omega) (by omega)) | fail)), (show 4 = 0 → (σ.1 35) = 4 → j_in (σ.1 36) 1000 (σ.2.1 54) from by (first | (intro z; exfalso; omega) | (intro z y; exfalso; omega) | exact fun _ => dj | fail)), (show 4 = 0 → 5 ≤ (σ.1 35) → J_ip (σ.1 7) (σ.1 6) (σ.1 37) (σ.2.1 14) (σ.2.1 15) (σ.2.1 16) (σ.2.1 19) from by (first | (intro z; exfalso; omega) | (intro z y; exfalso; omega) | exact fun _ => ipx | (intro z y; exact ipx (by omega)) | (intro z y; rw [W7, W6, W37, G14, G15, G16, G19]; exact ipx (by omega)) | fail)), (show 4 = 0 → ((σ.1 35) ≤ 5 → (σ.1 13) ≤ 60 * (σ.1 7)) ∧ (σ.1 13) ≤ 60 * (σ.1 7) + 60 from by (intro z; omega)), (show 4 = 0 → 6 ≤ (σ.1 35) → (σ.1 24) = (σ.1 7) ∧ J_f (σ.1 7) (σ.1 13) (σ.1 14) (σ.2.1 13) (σ.2.1 14) (σ.2.1 15) (σ.2.1 16) (σ.2.1 27) (σ.2.1 28) (σ.2.1 29) (σ.2.1 30) (σ.2.1 31) (σ.2.1 32) from by (first | (intro z; exfalso; omega) | (intro z y; refine ⟨by omega, ?_⟩; rw [w7_τ10, w13_τ10, w14_τ10, g13_τ10, g14_τ10, g15_τ10, g16_τ10, g27_τ10, g28_τ10, g29_τ10, g30_τ10, g31_τ10, g32_τ10, w7_τ6]; exact q4_7 c7) | fail)), (show 4 = 0 → 6 ≤ (σ.1 35) → J_sp (σ.1 24) (σ.1 21) (σ.1 23) (σ.1 22) (σ.2.1 49) (σ.2.1 51) ∧ ((σ.1 16) + (σ.1 21) ≤ 20000) ∧ (¬ (σ.1 27) = 0 → 1 ≤ (σ.1 21) ∧ 0 ≤ σ.2.1 49 ((σ.1 21) - 1) ∧ σ.2.1 49 ((σ.1 21) - 1) < 65536) ∧ ((σ.1 26) ≤ 1000000) ∧ ((σ.1 25) ≤ 2 → (σ.1 27) = 0) from by (first | (intro z; exfalso; omega) | (intro z y; refine ⟨?_, by omega, by omega, by omega, by omega⟩; rw [q8_2, q8_1, q8_5, q8_4]; exact J_sp0 _ _ _) | fail)), (show 4 = 0 → (σ.1 15) ≤ (σ.1 16) ∧ σ.2.1 36 (σ.1 15) ≤ (σ.1 16) from by (intro z; first | exact sux | omega)), (show 4 = 0 → (σ.1 9) ≤ (σ.1 7) from by (intro z; omega)), (show j_rr ((σ.1 5)) (σ.2.1 10) (σ.2.1 10) from by (first | exact j_rr0 _ _ | (rw [G10]; exact j_rr0 _ _) | fail)), (show j_eq (σ.2.1 36 (σ.1 15)) (σ.2.1 37) (σ.2.1 37) from CH), (show (σ.1 12) ≤ (σ.1 12) + 1 from by (first | assumption | omega | (simp only [st_s] <;> omega) | fail)), (show c_Y σ σ from by (first | exact c_Y0 _ | exact c_Y_g W4 G11 G20 G22 G25 | fail)), ag⟩
    ·
      refine ⟨fun c3 => ?_, fun c3 => ?_⟩
      ·
        refine ⟨_, K_X0_makeFrame hT (show 0 ≤ (σ.1 7) from by (first | assumption | omega | (simp only [st_s] <;> omega) | fail)) (show (σ.1 7) < 1500 from by (first | assumption | omega | (simp only [st_s] <;> omega) | fail)) (show (σ.1 7) = (σ.1 7) from by (first | assumption | omega | (simp only [st_s] <;> omega) | fail)) (show (σ.1 13) ≤ 60 * (σ.1 7) from by (first | assumption | omega | (simp only [st_s] <;> omega) | fail)) (show J_hfa (σ.1 9) (σ.2.1 13) (σ.2.1 14) (σ.2.1 22) from by exact JFx) (show (σ.1 12) < 2147483647 from by (first | assumption | omega | (simp only [st_s] <;> omega) | fail)) (show J_sc (σ.1 7) (σ.1 9) (σ.2.1 13) (σ.2.1 14) (σ.2.1 15) (σ.2.1 16) (σ.2.1 22) (σ.2.1 19) from SC) (show J_ip (σ.1 7) (σ.1 6) (σ.1 37) (σ.2.1 14) (σ.2.1 15) (σ.2.1 16) (σ.2.1 19) from by exact ipx (by omega)) (show ¬ (σ.1 37) = 0 from by (first | assumption | omega | (simp only [st_s] <;> omega) | fail)) (show σ.2.1 14 ((σ.1 7) + 1) = (σ.1 6) from by (first | assumption | omega | (simp only [st_s] <;> omega) | fail)) (show σ.2.1 14 (σ.1 7) ≤ (σ.1 6) from by (first | assumption | omega | (simp only [st_s] <;> omega) | fail)) (show ∀ i : Int, 0 ≤ i → i < (σ.1 7) → J_t i (σ.1 6) (σ.2.1 13) (σ.2.1 14) (σ.2.1 15) (σ.2.1 16) (σ.2.1 10) from by exact jt) (show ∀ s : Int, σ.2.1 26 s ≤ (σ.1 12) from MT), ?_⟩
        intro x5 τ6 r_x5 hn_τ6 hf_τ6 hq
        obtain ⟨hT, q4_1, q4_2, q4_3, q4_4, q4_5, q4_6, q4_7, q4_8⟩ := hq
        replace q4_1 : 0 ≤ x5 ∧ x5 ≤ 1 := q4_1
        replace q4_2 : τ6.2.1 27 (σ.1 7) + τ6.2.1 28 (σ.1 7) = (τ6.1 13) := q4_2
        replace q4_3 : (τ6.1 13) ≤ 60 * (σ.1 7) + 60 := q4_3
        replace q4_4 : ¬ x5 = 0 → τ6.2.1 30 (σ.1 7) + τ6.2.1 31 (σ.1 7) = (τ6.1 14) := q4_4
        replace q4_5 : (τ6.1 12) = (σ.1 12) + 1 := q4_5
        replace q4_6 : ∀ s : Int, τ6.2.1 26 s ≤ (τ6.1 12) := q4_6
        replace q4_7 : ¬ x5 = 0 → J_f (σ.1 7) (τ6.1 13) (τ6.1 14) (τ6.2.1 13) (τ6.2.1 14) (τ6.2.1 15) (τ6.2.1 16) (τ6.2.1 27) (τ6.2.1 28) (τ6.2.1 29) (τ6.2.1 30) (τ6.2.1 31) (τ6.2.1 32) := q4_7
        replace q4_8 : c_ag σ τ6 := q4_8
        replace ag : c_ag σ τ6 := ag_t ag q4_8 rfl
        have w3_τ6 : τ6.1 3 = σ.1 3 := hf_τ6.1 3 (by decide)
        have w4_τ6 : τ6.1 4 = σ.1 4 := hf_τ6.1 4 (by decide)
        have w5_τ6 : τ6.1 5 = σ.1 5 := hf_τ6.1 5 (by decide)
        have w6_τ6 : τ6.1 6 = σ.1 6 := hf_τ6.1 6 (by decide)
        have w7_τ6 : τ6.1 7 = σ.1 7 := hf_τ6.1 7 (by decide)
        have w8_τ6 : τ6.1 8 = σ.1 8 := hf_τ6.1 8 (by decide)
        have w9_τ6 : τ6.1 9 = σ.1 9 := hf_τ6.1 9 (by decide)
        have w10_τ6 : τ6.1 10 = σ.1 10 := hf_τ6.1 10 (by decide)
        have w11_τ6 : τ6.1 11 = σ.1 11 := hf_τ6.1 11 (by decide)
        have w15_τ6 : τ6.1 15 = σ.1 15 := hf_τ6.1 15 (by decide)
        have w16_τ6 : τ6.1 16 = σ.1 16 := hf_τ6.1 16 (by decide)
        have w21_τ6 : τ6.1 21 = σ.1 21 := hf_τ6.1 21 (by decide)
        have w22_τ6 : τ6.1 22 = σ.1 22 := hf_τ6.1 22 (by decide)
        have w23_τ6 : τ6.1 23 = σ.1 23 := hf_τ6.1 23 (by decide)
        have w24_τ6 : τ6.1 24 = σ.1 24 := hf_τ6.1 24 (by decide)
        have w25_τ6 : τ6.1 25 = σ.1 25 := hf_τ6.1 25 (by decide)
        have w26_τ6 : τ6.1 26 = σ.1 26 := hf_τ6.1 26 (by decide)
        have w27_τ6 : τ6.1 27 = σ.1 27 := hf_τ6.1 27 (by decide)
        have w35_τ6 : τ6.1 35 = σ.1 35 := hf_τ6.1 35 (by decide)
        have w36_τ6 : τ6.1 36 = σ.1 36 := hf_τ6.1 36 (by decide)
        have w37_τ6 : τ6.1 37 = σ.1 37 := hf_τ6.1 37 (by decide)
        have g2_τ6 : τ6.2.1 2 = σ.2.1 2 := hf_τ6.2.1 2 (by decide)
        have g3_τ6 : τ6.2.1 3 = σ.2.1 3 := hf_τ6.2.1 3 (by decide)
        have g4_τ6 : τ6.2.1 4 = σ.2.1 4 := hf_τ6.2.1 4 (by decide)
        have g5_τ6 : τ6.2.1 5 = σ.2.1 5 := hf_τ6.2.1 5 (by decide)
        have g6_τ6 : τ6.2.1 6 = σ.2.1 6 := hf_τ6.2.1 6 (by decide)
        have g8_τ6 : τ6.2.1 8 = σ.2.1 8 := hf_τ6.2.1 8 (by decide)
        have g9_τ6 : τ6.2.1 9 = σ.2.1 9 := hf_τ6.2.1 9 (by decide)
        have g10_τ6 : τ6.2.1 10 = σ.2.1 10 := hf_τ6.2.1 10 (by decide)
        have g11_τ6 : τ6.2.1 11 = σ.2.1 11 := hf_τ6.2.1 11 (by decide)
        have g13_τ6 : τ6.2.1 13 = σ.2.1 13 := hf_τ6.2.1 13 (by decide)
        have g14_τ6 : τ6.2.1 14 = σ.2.1 14 := hf_τ6.2.1 14 (by decide)
        have g15_τ6 : τ6.2.1 15 = σ.2.1 15 := hf_τ6.2.1 15 (by decide)
        have g16_τ6 : τ6.2.1 16 = σ.2.1 16 := hf_τ6.2.1 16 (by decide)
        have g18_τ6 : τ6.2.1 18 = σ.2.1 18 := hf_τ6.2.1 18 (by decide)
        have g19_τ6 : τ6.2.1 19 = σ.2.1 19 := hf_τ6.2.1 19 (by decide)
        have g20_τ6 : τ6.2.1 20 = σ.2.1 20 := hf_τ6.2.1 20 (by decide)
        have g22_τ6 : τ6.2.1 22 = σ.2.1 22 := hf_τ6.2.1 22 (by decide)
        have g23_τ6 : τ6.2.1 23 = σ.2.1 23 := hf_τ6.2.1 23 (by decide)
        have g24_τ6 : τ6.2.1 24 = σ.2.1 24 := hf_τ6.2.1 24 (by decide)
        have g25_τ6 : τ6.2.1 25 = σ.2.1 25 := hf_τ6.2.1 25 (by decide)
        have g33_τ6 : τ6.2.1 33 = σ.2.1 33 := hf_τ6.2.1 33 (by decide)
        have g34_τ6 : τ6.2.1 34 = σ.2.1 34 := hf_τ6.2.1 34 (by decide)
        have g35_τ6 : τ6.2.1 35 = σ.2.1 35 := hf_τ6.2.1 35 (by decide)
        have g36_τ6 : τ6.2.1 36 = σ.2.1 36 := hf_τ6.2.1 36 (by decide)
        have g37_τ6 : τ6.2.1 37 = σ.2.1 37 := hf_τ6.2.1 37 (by decide)
        have g44_τ6 : τ6.2.1 44 = σ.2.1 44 := hf_τ6.2.1 44 (by decide)
        have g45_τ6 : τ6.2.1 45 = σ.2.1 45 := hf_τ6.2.1 45 (by decide)
        have g49_τ6 : τ6.2.1 49 = σ.2.1 49 := hf_τ6.2.1 49 (by decide)
        have g51_τ6 : τ6.2.1 51 = σ.2.1 51 := hf_τ6.2.1 51 (by decide)
        have g54_τ6 : τ6.2.1 54 = σ.2.1 54 := hf_τ6.2.1 54 (by decide)
        have W3 : τ6.1 3 = σ.1 3 := by omega
        have W4 : τ6.1 4 = σ.1 4 := by omega
        have W5 : τ6.1 5 = σ.1 5 := by omega
        have W6 : τ6.1 6 = σ.1 6 := by omega
        have W7 : τ6.1 7 = σ.1 7 := by omega
        have W8 : τ6.1 8 = σ.1 8 := by omega
        have W9 : τ6.1 9 = σ.1 9 := by omega
        have W10 : τ6.1 10 = σ.1 10 := by omega
        have W11 : τ6.1 11 = σ.1 11 := by omega
        have W15 : τ6.1 15 = σ.1 15 := by omega
        have W16 : τ6.1 16 = σ.1 16 := by omega
        have W36 : τ6.1 36 = σ.1 36 := by omega
        have W37 : τ6.1 37 = σ.1 37 := by omega
        have G2 : τ6.2.1 2 = σ.2.1 2 := (g2_τ6).trans G2
        have G3 : τ6.2.1 3 = σ.2.1 3 := (g3_τ6).trans G3
        have G4 : τ6.2.1 4 = σ.2.1 4 := (g4_τ6).trans G4
        have G5 : τ6.2.1 5 = σ.2.1 5 := (g5_τ6).trans G5
        have G6 : τ6.2.1 6 = σ.2.1 6 := (g6_τ6).trans G6
        have G8 : τ6.2.1 8 = σ.2.1 8 := (g8_τ6).trans G8
        have G9 : τ6.2.1 9 = σ.2.1 9 := (g9_τ6).trans G9
        have G10 : τ6.2.1 10 = σ.2.1 10 := (g10_τ6).trans G10
        have G11 : τ6.2.1 11 = σ.2.1 11 := (g11_τ6).trans G11
        have G13 : τ6.2.1 13 = σ.2.1 13 := (g13_τ6).trans G13
        have G14 : τ6.2.1 14 = σ.2.1 14 := (g14_τ6).trans G14
        have G15 : τ6.2.1 15 = σ.2.1 15 := (g15_τ6).trans G15
        have G16 : τ6.2.1 16 = σ.2.1 16 := (g16_τ6).trans G16
        have G18 : τ6.2.1 18 = σ.2.1 18 := (g18_τ6).trans G18
        have G19 : τ6.2.1 19 = σ.2.1 19 := (g19_τ6).trans G19
        have G20 : τ6.2.1 20 = σ.2.1 20 := (g20_τ6).trans G20
        have G22 : τ6.2.1 22 = σ.2.1 22 := (g22_τ6).trans G22
        have G23 : τ6.2.1 23 = σ.2.1 23 := (g23_τ6).trans G23
        have G24 : τ6.2.1 24 = σ.2.1 24 := (g24_τ6).trans G24
        have G25 : τ6.2.1 25 = σ.2.1 25 := (g25_τ6).trans G25
        have G33 : τ6.2.1 33 = σ.2.1 33 := (g33_τ6).trans G33
        have G34 : τ6.2.1 34 = σ.2.1 34 := (g34_τ6).trans G34
        have G35 : τ6.2.1 35 = σ.2.1 35 := (g35_τ6).trans G35
        have G36 : τ6.2.1 36 = σ.2.1 36 := (g36_τ6).trans G36
        have G37 : τ6.2.1 37 = σ.2.1 37 := (g37_τ6).trans G37
        have G44 : τ6.2.1 44 = σ.2.1 44 := (g44_τ6).trans G44
        have G45 : τ6.2.1 45 = σ.2.1 45 := (g45_τ6).trans G45
        have G49 : τ6.2.1 49 = σ.2.1 49 := (g49_τ6).trans G49
        have G51 : τ6.2.1 51 = σ.2.1 51 := (g51_τ6).trans G51
        have G54 : τ6.2.1 54 = σ.2.1 54 := (g54_τ6).trans G54
        have y14_7_τ6 : τ6.2.1 14 (τ6.1 7) = (σ.2.1 14) (σ.1 7) := by rw [g14_τ6, w7_τ6]
        have y36_15_τ6 : τ6.2.1 36 (τ6.1 15) = (σ.2.1 36) (σ.1 15) := by rw [g36_τ6, w15_τ6]
        have HT : J_ht (τ6.1 3) (τ6.2.1 2) (τ6.2.1 3) (τ6.2.1 5) (τ6.2.1 6) := by rw [show (J_ht (τ6.1 3) (τ6.2.1 2) (τ6.2.1 3) (τ6.2.1 5) (τ6.2.1 6)) = (J_ht (σ.1 3) (σ.2.1 2) (σ.2.1 3) (σ.2.1 5) (σ.2.1 6)) from by rw [w3_τ6, g2_τ6, g3_τ6, g5_τ6, g6_τ6]]; exact HT
        have NL : J_nl (τ6.1 3) (τ6.2.1 2) (τ6.2.1 3) (τ6.2.1 4) := by rw [show (J_nl (τ6.1 3) (τ6.2.1 2) (τ6.2.1 3) (τ6.2.1 4)) = (J_nl (σ.1 3) (σ.2.1 2) (σ.2.1 3) (σ.2.1 4)) from by rw [w3_τ6, g2_τ6, g3_τ6, g4_τ6]]; exact NL
        have MN : J_mn (τ6.1 3) (τ6.1 5) ((τ6.1 7) + 1) (τ6.2.1 4) := by rw [show (J_mn (τ6.1 3) (τ6.1 5) ((τ6.1 7) + 1) (τ6.2.1 4)) = (J_mn (σ.1 3) (σ.1 5) ((σ.1 7) + 1) (σ.2.1 4)) from by rw [w3_τ6, w5_τ6, w7_τ6, g4_τ6]]; exact MN
        have VA : J_va (τ6.1 8) 1000 (τ6.2.1 18) (τ6.2.1 20) := by rw [show (J_va (τ6.1 8) 1000 (τ6.2.1 18) (τ6.2.1 20)) = (J_va (σ.1 8) 1000 (σ.2.1 18) (σ.2.1 20)) from by rw [w8_τ6, g18_τ6, g20_τ6]]; exact VA
        have SC : J_sc (τ6.1 7) (τ6.1 9) (τ6.2.1 13) (τ6.2.1 14) (τ6.2.1 15) (τ6.2.1 16) (τ6.2.1 22) (τ6.2.1 19) := by rw [show (J_sc (τ6.1 7) (τ6.1 9) (τ6.2.1 13) (τ6.2.1 14) (τ6.2.1 15) (τ6.2.1 16) (τ6.2.1 22) (τ6.2.1 19)) = (J_sc (σ.1 7) (σ.1 9) (σ.2.1 13) (σ.2.1 14) (σ.2.1 15) (σ.2.1 16) (σ.2.1 22) (σ.2.1 19)) from by rw [w7_τ6, w9_τ6, g13_τ6, g14_τ6, g15_τ6, g16_τ6, g19_τ6, g22_τ6]]; exact SC
        have MK : J_mk (τ6.1 11) (τ6.1 8) (τ6.1 9) (τ6.1 10) (τ6.2.1 25) := by rw [show (J_mk (τ6.1 11) (τ6.1 8) (τ6.1 9) (τ6.1 10) (τ6.2.1 25)) = (J_mk (σ.1 11) (σ.1 8) (σ.1 9) (σ.1 10) (σ.2.1 25)) from by rw [w8_τ6, w9_τ6, w10_τ6, w11_τ6, g25_τ6]]; exact MK
        have FF : J_ff (τ6.1 5) (τ6.1 7) (τ6.2.1 9) (τ6.2.1 13) (τ6.2.1 14) (τ6.2.1 15) := by rw [show (J_ff (τ6.1 5) (τ6.1 7) (τ6.2.1 9) (τ6.2.1 13) (τ6.2.1 14) (τ6.2.1 15)) = (J_ff (σ.1 5) (σ.1 7) (σ.2.1 9) (σ.2.1 13) (σ.2.1 14) (σ.2.1 15)) from by rw [w5_τ6, w7_τ6, g9_τ6, g13_τ6, g14_τ6, g15_τ6]]; exact FF
        have MT : ∀ s : Int, τ6.2.1 26 s ≤ (τ6.1 12) := q4_6
        have VS : J_vs (τ6.1 8) (τ6.1 5) (τ6.2.1 20) := by rw [show (J_vs (τ6.1 8) (τ6.1 5) (τ6.2.1 20)) = (J_vs (σ.1 8) (σ.1 5) (σ.2.1 20)) from by rw [w5_τ6, w8_τ6, g20_τ6]]; exact VS
        have TX : J_vs (τ6.1 6) (τ6.1 5) (τ6.2.1 15) := by rw [show (J_vs (τ6.1 6) (τ6.1 5) (τ6.2.1 15)) = (J_vs (σ.1 6) (σ.1 5) (σ.2.1 15)) from by rw [w5_τ6, w6_τ6, g15_τ6]]; exact TX
        have RKS : J_rks (τ6.1 5) (τ6.1 4) (τ6.2.1 10) (τ6.2.1 11) := by rw [show (J_rks (τ6.1 5) (τ6.1 4) (τ6.2.1 10) (τ6.2.1 11)) = (J_rks (σ.1 5) (σ.1 4) (σ.2.1 10) (σ.2.1 11)) from by rw [w4_τ6, w5_τ6, g10_τ6, g11_τ6]]; exact RKS
        have BP : J_bp (τ6.2.1 44) (τ6.2.1 45) := by rw [show (J_bp (τ6.2.1 44) (τ6.2.1 45)) = (J_bp (σ.2.1 44) (σ.2.1 45)) from by rw [g44_τ6, g45_τ6]]; exact BP
        have CH : j_eq (σ.2.1 36 (σ.1 15)) (σ.2.1 37) (τ6.2.1 37) := by rw [show (j_eq (σ.2.1 36 (σ.1 15)) (σ.2.1 37) (τ6.2.1 37)) = (j_eq (σ.2.1 36 (σ.1 15)) (σ.2.1 37) (σ.2.1 37)) from by rw [g37_τ6]]; exact CH
        have RS : J_rs (τ6.1 35) (τ6.1 7) (τ6.1 6) (τ6.1 36) (τ6.1 37) (τ6.1 5) (τ6.1 8) (τ6.2.1 14) := by rw [show (J_rs (τ6.1 35) (τ6.1 7) (τ6.1 6) (τ6.1 36) (τ6.1 37) (τ6.1 5) (τ6.1 8) (τ6.2.1 14)) = (J_rs (σ.1 35) (σ.1 7) (σ.1 6) (σ.1 36) (σ.1 37) (σ.1 5) (σ.1 8) (σ.2.1 14)) from by rw [w5_τ6, w6_τ6, w7_τ6, w8_τ6, w35_τ6, w36_τ6, w37_τ6, g14_τ6]]; exact RS
        have A2 : ∀ j, 0 ≤ τ6.2.1 2 j ∧ τ6.2.1 2 j ≤ 65535 := fun j => hT.2 2 j
        have A3 : ∀ j, 0 ≤ τ6.2.1 3 j ∧ τ6.2.1 3 j ≤ 30000 := fun j => hT.2 3 j
        have A4 : ∀ j, (-1000) ≤ τ6.2.1 4 j ∧ τ6.2.1 4 j ≤ 1499 := fun j => hT.2 4 j
        have A5 : ∀ j, 0 ≤ τ6.2.1 5 j ∧ τ6.2.1 5 j ≤ 2500 := fun j => hT.2 5 j
        have A6 : ∀ j, 0 ≤ τ6.2.1 6 j ∧ τ6.2.1 6 j ≤ 2500 := fun j => hT.2 6 j
        have A8 : ∀ j, 0 ≤ τ6.2.1 8 j ∧ τ6.2.1 8 j ≤ 1 := fun j => hT.2 8 j
        have A9 : ∀ j, (-1) ≤ τ6.2.1 9 j ∧ τ6.2.1 9 j ≤ 1499 := fun j => hT.2 9 j
        have A10 : ∀ j, (-1) ≤ τ6.2.1 10 j ∧ τ6.2.1 10 j ≤ 99 := fun j => hT.2 10 j
        have A11 : ∀ j, 0 ≤ τ6.2.1 11 j ∧ τ6.2.1 11 j ≤ 999 := fun j => hT.2 11 j
        have A13 : ∀ j, 0 ≤ τ6.2.1 13 j ∧ τ6.2.1 13 j ≤ 4 := fun j => hT.2 13 j
        have A14 : ∀ j, 0 ≤ τ6.2.1 14 j ∧ τ6.2.1 14 j ≤ 30000 := fun j => hT.2 14 j
        have A15 : ∀ j, 0 ≤ τ6.2.1 15 j ∧ τ6.2.1 15 j ≤ 999 := fun j => hT.2 15 j
        have A16 : ∀ j, (-1) ≤ τ6.2.1 16 j ∧ τ6.2.1 16 j ≤ 1499 := fun j => hT.2 16 j
        have A18 : ∀ j, 0 ≤ τ6.2.1 18 j ∧ τ6.2.1 18 j ≤ 1 := fun j => hT.2 18 j
        have A19 : ∀ j, (-1) ≤ τ6.2.1 19 j ∧ τ6.2.1 19 j ≤ 1499 := fun j => hT.2 19 j
        have A20 : ∀ j, 0 ≤ τ6.2.1 20 j ∧ τ6.2.1 20 j ≤ 999 := fun j => hT.2 20 j
        have A22 : ∀ j, 0 ≤ τ6.2.1 22 j ∧ τ6.2.1 22 j ≤ 1499 := fun j => hT.2 22 j
        have A23 : ∀ j, 0 ≤ τ6.2.1 23 j ∧ τ6.2.1 23 j ≤ 999 := fun j => hT.2 23 j
        have A24 : ∀ j, 0 ≤ τ6.2.1 24 j ∧ τ6.2.1 24 j ≤ 999 := fun j => hT.2 24 j
        have A26 : ∀ j, (-2147483648) ≤ τ6.2.1 26 j ∧ τ6.2.1 26 j ≤ 2147483647 := fun j => hT.2 26 j
        have A27 : ∀ j, 0 ≤ τ6.2.1 27 j ∧ τ6.2.1 27 j ≤ 90000 := fun j => hT.2 27 j
        have A28 : ∀ j, 0 ≤ τ6.2.1 28 j ∧ τ6.2.1 28 j ≤ 60 := fun j => hT.2 28 j
        have A29 : ∀ j, 0 ≤ τ6.2.1 29 j ∧ τ6.2.1 29 j ≤ 1499 := fun j => hT.2 29 j
        have A30 : ∀ j, 0 ≤ τ6.2.1 30 j ∧ τ6.2.1 30 j ≤ 20000 := fun j => hT.2 30 j
        have A31 : ∀ j, 0 ≤ τ6.2.1 31 j ∧ τ6.2.1 31 j ≤ 20000 := fun j => hT.2 31 j
        have A32 : ∀ j, 0 ≤ τ6.2.1 32 j ∧ τ6.2.1 32 j ≤ 999999 := fun j => hT.2 32 j
        have A33 : ∀ j, 0 ≤ τ6.2.1 33 j ∧ τ6.2.1 33 j ≤ 20000 := fun j => hT.2 33 j
        have A34 : ∀ j, 0 ≤ τ6.2.1 34 j ∧ τ6.2.1 34 j ≤ 20000 := fun j => hT.2 34 j
        have A35 : ∀ j, 0 ≤ τ6.2.1 35 j ∧ τ6.2.1 35 j ≤ 1499 := fun j => hT.2 35 j
        have A36 : ∀ j, 0 ≤ τ6.2.1 36 j ∧ τ6.2.1 36 j ≤ 20000 := fun j => hT.2 36 j
        have A37 : ∀ j, 0 ≤ τ6.2.1 37 j ∧ τ6.2.1 37 j ≤ 19999 := fun j => hT.2 37 j
        have A44 : ∀ j, 0 ≤ τ6.2.1 44 j ∧ τ6.2.1 44 j ≤ 42000 := fun j => hT.2 44 j
        have A45 : ∀ j, 0 ≤ τ6.2.1 45 j ∧ τ6.2.1 45 j ≤ 1000 := fun j => hT.2 45 j
        have A49 : ∀ j, (-300) ≤ τ6.2.1 49 j ∧ τ6.2.1 49 j ≤ 67035 := fun j => hT.2 49 j
        have A51 : ∀ j, 0 ≤ τ6.2.1 51 j ∧ τ6.2.1 51 j ≤ 1499 := fun j => hT.2 51 j
        have A54 : ∀ j, 0 ≤ τ6.2.1 54 j ∧ τ6.2.1 54 j ≤ 999 := fun j => hT.2 54 j
        have v3 : 0 ≤ τ6.1 3 ∧ τ6.1 3 ≤ 2500 := hT.1 3
        have v4 : 0 ≤ τ6.1 4 ∧ τ6.1 4 ≤ 100 := hT.1 4
        have v5 : 0 ≤ τ6.1 5 ∧ τ6.1 5 ≤ 1000 := hT.1 5
        have v6 : 0 ≤ τ6.1 6 ∧ τ6.1 6 ≤ 30000 := hT.1 6
        have v7 : 0 ≤ τ6.1 7 ∧ τ6.1 7 ≤ 1500 := hT.1 7
        have v8 : 0 ≤ τ6.1 8 ∧ τ6.1 8 ≤ 1000 := hT.1 8
        have v9 : 0 ≤ τ6.1 9 ∧ τ6.1 9 ≤ 1500 := hT.1 9
        have v10 : 0 ≤ τ6.1 10 ∧ τ6.1 10 ≤ 1000 := hT.1 10
        have v11 : 0 ≤ τ6.1 11 ∧ τ6.1 11 ≤ 50 := hT.1 11
        have v12 : (-2147483648) ≤ τ6.1 12 ∧ τ6.1 12 ≤ 2147483647 := hT.1 12
        have v13 : 0 ≤ τ6.1 13 ∧ τ6.1 13 ≤ 90000 := hT.1 13
        have v14 : 0 ≤ τ6.1 14 ∧ τ6.1 14 ≤ 20000 := hT.1 14
        have v15 : 0 ≤ τ6.1 15 ∧ τ6.1 15 ≤ 20000 := hT.1 15
        have v16 : 0 ≤ τ6.1 16 ∧ τ6.1 16 ≤ 20000 := hT.1 16
        have v21 : 0 ≤ τ6.1 21 ∧ τ6.1 21 ≤ 20000 := hT.1 21
        have v22 : 0 ≤ τ6.1 22 ∧ τ6.1 22 ≤ 300 := hT.1 22
        have v23 : 0 ≤ τ6.1 23 ∧ τ6.1 23 ≤ 300 := hT.1 23
        have v24 : 0 ≤ τ6.1 24 ∧ τ6.1 24 ≤ 1499 := hT.1 24
        have v25 : 0 ≤ τ6.1 25 ∧ τ6.1 25 ≤ 3 := hT.1 25
        have v26 : 0 ≤ τ6.1 26 ∧ τ6.1 26 ≤ 5000010 := hT.1 26
        have v27 : 0 ≤ τ6.1 27 ∧ τ6.1 27 ≤ 1 := hT.1 27
        have v35 : 0 ≤ τ6.1 35 ∧ τ6.1 35 ≤ 7 := hT.1 35
        have v36 : 0 ≤ τ6.1 36 ∧ τ6.1 36 ≤ 1001 := hT.1 36
        have v37 : 0 ≤ τ6.1 37 ∧ τ6.1 37 ≤ 4 := hT.1 37
        have a14_7 : 0 ≤ τ6.2.1 14 (τ6.1 7) ∧ τ6.2.1 14 (τ6.1 7) ≤ 30000 := hT.2 14 _
        have a36_15 : 0 ≤ τ6.2.1 36 (τ6.1 15) ∧ τ6.2.1 36 (τ6.1 15) ≤ 20000 := hT.2 36 _
        have av13 : σ.1 13 ≤ τ6.1 13 := ag.1 13 (by decide)
        have av14 : σ.1 14 ≤ τ6.1 14 := ag.1 14 (by decide)
        have a14 := ag_k ag 14 7 1 (by decide)
        refine ⟨fun c7 => ?_, fun c7 => ?_⟩
        ·
          replace ag := ag_v (i := 35) (x := 6) ag (Or.inl rfl)
          replace hT := cT_v (i := 35) hT (show (0 : Int) ≤ 6 ∧ 6 ≤ 7 from by (first | assumption | omega | (simp only [st_s] <;> omega) | fail))
          refine ⟨_, K2_X10_begin hT (show 0 ≤ (τ6.1 7) from by (first | assumption | omega | (simp only [st_s] <;> omega) | fail)) (show (τ6.1 7) < 1500 from by (first | assumption | omega | (simp only [st_s] <;> omega) | fail)), ?_⟩
          intro τ10 hn_τ10 hf_τ10 hq
          obtain ⟨hT, q8_1, q8_2, q8_3, q8_4, q8_5, q8_6, q8_7⟩ := hq
          replace q8_1 : (τ10.1 21) = 0 := q8_1
          replace q8_2 : (τ10.1 24) = (τ6.1 7) := q8_2
          replace q8_3 : (τ10.1 25) = 0 := q8_3
          replace q8_4 : (τ10.1 22) = 0 := q8_4
          replace q8_5 : (τ10.1 23) = 0 := q8_5
          replace q8_6 : (τ10.1 26) = 0 := q8_6
          replace q8_7 : (τ10.1 27) = 0 := q8_7
          replace ag : c_ag σ τ10 := ag_r ag hf_τ10 rfl rfl
          have w3_τ10 : τ10.1 3 = τ6.1 3 := hf_τ10.1 3 (by decide)
          have w4_τ10 : τ10.1 4 = τ6.1 4 := hf_τ10.1 4 (by decide)
          have w5_τ10 : τ10.1 5 = τ6.1 5 := hf_τ10.1 5 (by decide)
          have w6_τ10 : τ10.1 6 = τ6.1 6 := hf_τ10.1 6 (by decide)
          have w7_τ10 : τ10.1 7 = τ6.1 7 := hf_τ10.1 7 (by decide)
          have w8_τ10 : τ10.1 8 = τ6.1 8 := hf_τ10.1 8 (by decide)
          have w9_τ10 : τ10.1 9 = τ6.1 9 := hf_τ10.1 9 (by decide)
          have w10_τ10 : τ10.1 10 = τ6.1 10 := hf_τ10.1 10 (by decide)
          have w11_τ10 : τ10.1 11 = τ6.1 11 := hf_τ10.1 11 (by decide)
          have w12_τ10 : τ10.1 12 = τ6.1 12 := hf_τ10.1 12 (by decide)
          have w13_τ10 : τ10.1 13 = τ6.1 13 := hf_τ10.1 13 (by decide)
          have w14_τ10 : τ10.1 14 = τ6.1 14 := hf_τ10.1 14 (by decide)
          have w15_τ10 : τ10.1 15 = τ6.1 15 := hf_τ10.1 15 (by decide)
          have w16_τ10 : τ10.1 16 = τ6.1 16 := hf_τ10.1 16 (by decide)
          have w35_τ10 : τ10.1 35 = 6 := hf_τ10.1 35 (by decide)
          have w36_τ10 : τ10.1 36 = τ6.1 36 := hf_τ10.1 36 (by decide)
          have w37_τ10 : τ10.1 37 = τ6.1 37 := hf_τ10.1 37 (by decide)
          have g2_τ10 : τ10.2.1 2 = τ6.2.1 2 := hf_τ10.2.1 2 (by decide)
          have g3_τ10 : τ10.2.1 3 = τ6.2.1 3 := hf_τ10.2.1 3 (by decide)
          have g4_τ10 : τ10.2.1 4 = τ6.2.1 4 := hf_τ10.2.1 4 (by decide)
          have g5_τ10 : τ10.2.1 5 = τ6.2.1 5 := hf_τ10.2.1 5 (by decide)
          have g6_τ10 : τ10.2.1 6 = τ6.2.1 6 := hf_τ10.2.1 6 (by decide)
          have g8_τ10 : τ10.2.1 8 = τ6.2.1 8 := hf_τ10.2.1 8 (by decide)
          have g9_τ10 : τ10.2.1 9 = τ6.2.1 9 := hf_τ10.2.1 9 (by decide)
          have g10_τ10 : τ10.2.1 10 = τ6.2.1 10 := hf_τ10.2.1 10 (by decide)
          have g11_τ10 : τ10.2.1 11 = τ6.2.1 11 := hf_τ10.2.1 11 (by decide)
          have g13_τ10 : τ10.2.1 13 = τ6.2.1 13 := hf_τ10.2.1 13 (by decide)
          have g14_τ10 : τ10.2.1 14 = τ6.2.1 14 := hf_τ10.2.1 14 (by decide)
          have g15_τ10 : τ10.2.1 15 = τ6.2.1 15 := hf_τ10.2.1 15 (by decide)
          have g16_τ10 : τ10.2.1 16 = τ6.2.1 16 := hf_τ10.2.1 16 (by decide)
          have g18_τ10 : τ10.2.1 18 = τ6.2.1 18 := hf_τ10.2.1 18 (by decide)
          have g19_τ10 : τ10.2.1 19 = τ6.2.1 19 := hf_τ10.2.1 19 (by decide)
          have g20_τ10 : τ10.2.1 20 = τ6.2.1 20 := hf_τ10.2.1 20 (by decide)
          have g22_τ10 : τ10.2.1 22 = τ6.2.1 22 := hf_τ10.2.1 22 (by decide)
          have g23_τ10 : τ10.2.1 23 = τ6.2.1 23 := hf_τ10.2.1 23 (by decide)
          have g24_τ10 : τ10.2.1 24 = τ6.2.1 24 := hf_τ10.2.1 24 (by decide)
          have g25_τ10 : τ10.2.1 25 = τ6.2.1 25 := hf_τ10.2.1 25 (by decide)
          have g26_τ10 : τ10.2.1 26 = τ6.2.1 26 := hf_τ10.2.1 26 (by decide)
          have g27_τ10 : τ10.2.1 27 = τ6.2.1 27 := hf_τ10.2.1 27 (by decide)
          have g28_τ10 : τ10.2.1 28 = τ6.2.1 28 := hf_τ10.2.1 28 (by decide)
          have g29_τ10 : τ10.2.1 29 = τ6.2.1 29 := hf_τ10.2.1 29 (by decide)
          have g30_τ10 : τ10.2.1 30 = τ6.2.1 30 := hf_τ10.2.1 30 (by decide)
          have g31_τ10 : τ10.2.1 31 = τ6.2.1 31 := hf_τ10.2.1 31 (by decide)
          have g32_τ10 : τ10.2.1 32 = τ6.2.1 32 := hf_τ10.2.1 32 (by decide)
          have g33_τ10 : τ10.2.1 33 = τ6.2.1 33 := hf_τ10.2.1 33 (by decide)
          have g34_τ10 : τ10.2.1 34 = τ6.2.1 34 := hf_τ10.2.1 34 (by decide)
          have g35_τ10 : τ10.2.1 35 = τ6.2.1 35 := hf_τ10.2.1 35 (by decide)
          have g36_τ10 : τ10.2.1 36 = τ6.2.1 36 := hf_τ10.2.1 36 (by decide)
          have g37_τ10 : τ10.2.1 37 = τ6.2.1 37 := hf_τ10.2.1 37 (by decide)
          have g44_τ10 : τ10.2.1 44 = τ6.2.1 44 := hf_τ10.2.1 44 (by decide)
          have g45_τ10 : τ10.2.1 45 = τ6.2.1 45 := hf_τ10.2.1 45 (by decide)
          have g49_τ10 : τ10.2.1 49 = τ6.2.1 49 := hf_τ10.2.1 49 (by decide)
          have g51_τ10 : τ10.2.1 51 = τ6.2.1 51 := hf_τ10.2.1 51 (by decide)
          have g54_τ10 : τ10.2.1 54 = τ6.2.1 54 := hf_τ10.2.1 54 (by decide)
          have W3 : τ10.1 3 = σ.1 3 := by omega
          have W4 : τ10.1 4 = σ.1 4 := by omega
          have W5 : τ10.1 5 = σ.1 5 := by omega
          have W6 : τ10.1 6 = σ.1 6 := by omega
          have W7 : τ10.1 7 = σ.1 7 := by omega
          have W8 : τ10.1 8 = σ.1 8 := by omega
          have W9 : τ10.1 9 = σ.1 9 := by omega
          have W10 : τ10.1 10 = σ.1 10 := by omega
          have W11 : τ10.1 11 = σ.1 11 := by omega
          have W15 : τ10.1 15 = σ.1 15 := by omega
          have W16 : τ10.1 16 = σ.1 16 := by omega
          have W36 : τ10.1 36 = σ.1 36 := by omega
          have W37 : τ10.1 37 = σ.1 37 := by omega
          have G2 : τ10.2.1 2 = σ.2.1 2 := (g2_τ10).trans G2
          have G3 : τ10.2.1 3 = σ.2.1 3 := (g3_τ10).trans G3
          have G4 : τ10.2.1 4 = σ.2.1 4 := (g4_τ10).trans G4
          have G5 : τ10.2.1 5 = σ.2.1 5 := (g5_τ10).trans G5
          have G6 : τ10.2.1 6 = σ.2.1 6 := (g6_τ10).trans G6
          have G8 : τ10.2.1 8 = σ.2.1 8 := (g8_τ10).trans G8
          have G9 : τ10.2.1 9 = σ.2.1 9 := (g9_τ10).trans G9
          have G10 : τ10.2.1 10 = σ.2.1 10 := (g10_τ10).trans G10
          have G11 : τ10.2.1 11 = σ.2.1 11 := (g11_τ10).trans G11
          have G13 : τ10.2.1 13 = σ.2.1 13 := (g13_τ10).trans G13
          have G14 : τ10.2.1 14 = σ.2.1 14 := (g14_τ10).trans G14
          have G15 : τ10.2.1 15 = σ.2.1 15 := (g15_τ10).trans G15
          have G16 : τ10.2.1 16 = σ.2.1 16 := (g16_τ10).trans G16
          have G18 : τ10.2.1 18 = σ.2.1 18 := (g18_τ10).trans G18
          have G19 : τ10.2.1 19 = σ.2.1 19 := (g19_τ10).trans G19
          have G20 : τ10.2.1 20 = σ.2.1 20 := (g20_τ10).trans G20
          have G22 : τ10.2.1 22 = σ.2.1 22 := (g22_τ10).trans G22
          have G23 : τ10.2.1 23 = σ.2.1 23 := (g23_τ10).trans G23
          have G24 : τ10.2.1 24 = σ.2.1 24 := (g24_τ10).trans G24
          have G25 : τ10.2.1 25 = σ.2.1 25 := (g25_τ10).trans G25
          have G33 : τ10.2.1 33 = σ.2.1 33 := (g33_τ10).trans G33
          have G34 : τ10.2.1 34 = σ.2.1 34 := (g34_τ10).trans G34
          have G35 : τ10.2.1 35 = σ.2.1 35 := (g35_τ10).trans G35
          have G36 : τ10.2.1 36 = σ.2.1 36 := (g36_τ10).trans G36
          have G37 : τ10.2.1 37 = σ.2.1 37 := (g37_τ10).trans G37
          have G44 : τ10.2.1 44 = σ.2.1 44 := (g44_τ10).trans G44
          have G45 : τ10.2.1 45 = σ.2.1 45 := (g45_τ10).trans G45
          have G49 : τ10.2.1 49 = σ.2.1 49 := (g49_τ10).trans G49
          have G51 : τ10.2.1 51 = σ.2.1 51 := (g51_τ10).trans G51
          have G54 : τ10.2.1 54 = σ.2.1 54 := (g54_τ10).trans G54
          have y14_7_τ10 : τ10.2.1 14 (τ10.1 7) = (τ6.2.1 14) (τ6.1 7) := by rw [g14_τ10, w7_τ10]
          have y36_15_τ10 : τ10.2.1 36 (τ10.1 15) = (τ6.2.1 36) (τ6.1 15) := by rw [g36_τ10, w15_τ10]
          have HT : J_ht (τ10.1 3) (τ10.2.1 2) (τ10.2.1 3) (τ10.2.1 5) (τ10.2.1 6) := by rw [show (J_ht (τ10.1 3) (τ10.2.1 2) (τ10.2.1 3) (τ10.2.1 5) (τ10.2.1 6)) = (J_ht (τ6.1 3) (τ6.2.1 2) (τ6.2.1 3) (τ6.2.1 5) (τ6.2.1 6)) from by rw [w3_τ10, g2_τ10, g3_τ10, g5_τ10, g6_τ10]]; exact HT
          have NL : J_nl (τ10.1 3) (τ10.2.1 2) (τ10.2.1 3) (τ10.2.1 4) := by rw [show (J_nl (τ10.1 3) (τ10.2.1 2) (τ10.2.1 3) (τ10.2.1 4)) = (J_nl (τ6.1 3) (τ6.2.1 2) (τ6.2.1 3) (τ6.2.1 4)) from by rw [w3_τ10, g2_τ10, g3_τ10, g4_τ10]]; exact NL
          have MN : J_mn (τ10.1 3) (τ10.1 5) ((τ10.1 7) + 1) (τ10.2.1 4) := by rw [show (J_mn (τ10.1 3) (τ10.1 5) ((τ10.1 7) + 1) (τ10.2.1 4)) = (J_mn (τ6.1 3) (τ6.1 5) ((τ6.1 7) + 1) (τ6.2.1 4)) from by rw [w3_τ10, w5_τ10, w7_τ10, g4_τ10]]; exact MN
          have VA : J_va (τ10.1 8) 1000 (τ10.2.1 18) (τ10.2.1 20) := by rw [show (J_va (τ10.1 8) 1000 (τ10.2.1 18) (τ10.2.1 20)) = (J_va (τ6.1 8) 1000 (τ6.2.1 18) (τ6.2.1 20)) from by rw [w8_τ10, g18_τ10, g20_τ10]]; exact VA
          have SC : J_sc (τ10.1 7) (τ10.1 9) (τ10.2.1 13) (τ10.2.1 14) (τ10.2.1 15) (τ10.2.1 16) (τ10.2.1 22) (τ10.2.1 19) := by rw [show (J_sc (τ10.1 7) (τ10.1 9) (τ10.2.1 13) (τ10.2.1 14) (τ10.2.1 15) (τ10.2.1 16) (τ10.2.1 22) (τ10.2.1 19)) = (J_sc (τ6.1 7) (τ6.1 9) (τ6.2.1 13) (τ6.2.1 14) (τ6.2.1 15) (τ6.2.1 16) (τ6.2.1 22) (τ6.2.1 19)) from by rw [w7_τ10, w9_τ10, g13_τ10, g14_τ10, g15_τ10, g16_τ10, g19_τ10, g22_τ10]]; exact SC
          have MK : J_mk (τ10.1 11) (τ10.1 8) (τ10.1 9) (τ10.1 10) (τ10.2.1 25) := by rw [show (J_mk (τ10.1 11) (τ10.1 8) (τ10.1 9) (τ10.1 10) (τ10.2.1 25)) = (J_mk (τ6.1 11) (τ6.1 8) (τ6.1 9) (τ6.1 10) (τ6.2.1 25)) from by rw [w8_τ10, w9_τ10, w10_τ10, w11_τ10, g25_τ10]]; exact MK
          have FF : J_ff (τ10.1 5) (τ10.1 7) (τ10.2.1 9) (τ10.2.1 13) (τ10.2.1 14) (τ10.2.1 15) := by rw [show (J_ff (τ10.1 5) (τ10.1 7) (τ10.2.1 9) (τ10.2.1 13) (τ10.2.1 14) (τ10.2.1 15)) = (J_ff (τ6.1 5) (τ6.1 7) (τ6.2.1 9) (τ6.2.1 13) (τ6.2.1 14) (τ6.2.1 15)) from by rw [w5_τ10, w7_τ10, g9_τ10, g13_τ10, g14_τ10, g15_τ10]]; exact FF
          have MT : ∀ s : Int, τ10.2.1 26 s ≤ (τ10.1 12) := by rw [show (∀ s : Int, τ10.2.1 26 s ≤ (τ10.1 12)) = (∀ s : Int, τ6.2.1 26 s ≤ (τ6.1 12)) from by rw [w12_τ10, g26_τ10]]; exact MT
          have VS : J_vs (τ10.1 8) (τ10.1 5) (τ10.2.1 20) := by rw [show (J_vs (τ10.1 8) (τ10.1 5) (τ10.2.1 20)) = (J_vs (τ6.1 8) (τ6.1 5) (τ6.2.1 20)) from by rw [w5_τ10, w8_τ10, g20_τ10]]; exact VS
          have TX : J_vs (τ10.1 6) (τ10.1 5) (τ10.2.1 15) := by rw [show (J_vs (τ10.1 6) (τ10.1 5) (τ10.2.1 15)) = (J_vs (τ6.1 6) (τ6.1 5) (τ6.2.1 15)) from by rw [w5_τ10, w6_τ10, g15_τ10]]; exact TX
          have RKS : J_rks (τ10.1 5) (τ10.1 4) (τ10.2.1 10) (τ10.2.1 11) := by rw [show (J_rks (τ10.1 5) (τ10.1 4) (τ10.2.1 10) (τ10.2.1 11)) = (J_rks (τ6.1 5) (τ6.1 4) (τ6.2.1 10) (τ6.2.1 11)) from by rw [w4_τ10, w5_τ10, g10_τ10, g11_τ10]]; exact RKS
          have BP : J_bp (τ10.2.1 44) (τ10.2.1 45) := by rw [show (J_bp (τ10.2.1 44) (τ10.2.1 45)) = (J_bp (τ6.2.1 44) (τ6.2.1 45)) from by rw [g44_τ10, g45_τ10]]; exact BP
          have CH : j_eq (σ.2.1 36 (σ.1 15)) (σ.2.1 37) (τ10.2.1 37) := by rw [show (j_eq (σ.2.1 36 (σ.1 15)) (σ.2.1 37) (τ10.2.1 37)) = (j_eq (σ.2.1 36 (σ.1 15)) (σ.2.1 37) (τ6.2.1 37)) from by rw [g37_τ10]]; exact CH
          have A2 : ∀ j, 0 ≤ τ10.2.1 2 j ∧ τ10.2.1 2 j ≤ 65535 := fun j => hT.2 2 j
          have A3 : ∀ j, 0 ≤ τ10.2.1 3 j ∧ τ10.2.1 3 j ≤ 30000 := fun j => hT.2 3 j
          have A4 : ∀ j, (-1000) ≤ τ10.2.1 4 j ∧ τ10.2.1 4 j ≤ 1499 := fun j => hT.2 4 j
          have A5 : ∀ j, 0 ≤ τ10.2.1 5 j ∧ τ10.2.1 5 j ≤ 2500 := fun j => hT.2 5 j
          have A6 : ∀ j, 0 ≤ τ10.2.1 6 j ∧ τ10.2.1 6 j ≤ 2500 := fun j => hT.2 6 j
          have A8 : ∀ j, 0 ≤ τ10.2.1 8 j ∧ τ10.2.1 8 j ≤ 1 := fun j => hT.2 8 j
          have A9 : ∀ j, (-1) ≤ τ10.2.1 9 j ∧ τ10.2.1 9 j ≤ 1499 := fun j => hT.2 9 j
          have A10 : ∀ j, (-1) ≤ τ10.2.1 10 j ∧ τ10.2.1 10 j ≤ 99 := fun j => hT.2 10 j
          have A11 : ∀ j, 0 ≤ τ10.2.1 11 j ∧ τ10.2.1 11 j ≤ 999 := fun j => hT.2 11 j
          have A13 : ∀ j, 0 ≤ τ10.2.1 13 j ∧ τ10.2.1 13 j ≤ 4 := fun j => hT.2 13 j
          have A14 : ∀ j, 0 ≤ τ10.2.1 14 j ∧ τ10.2.1 14 j ≤ 30000 := fun j => hT.2 14 j
          have A15 : ∀ j, 0 ≤ τ10.2.1 15 j ∧ τ10.2.1 15 j ≤ 999 := fun j => hT.2 15 j
          have A16 : ∀ j, (-1) ≤ τ10.2.1 16 j ∧ τ10.2.1 16 j ≤ 1499 := fun j => hT.2 16 j
          have A18 : ∀ j, 0 ≤ τ10.2.1 18 j ∧ τ10.2.1 18 j ≤ 1 := fun j => hT.2 18 j
          have A19 : ∀ j, (-1) ≤ τ10.2.1 19 j ∧ τ10.2.1 19 j ≤ 1499 := fun j => hT.2 19 j
          have A20 : ∀ j, 0 ≤ τ10.2.1 20 j ∧ τ10.2.1 20 j ≤ 999 := fun j => hT.2 20 j
          have A22 : ∀ j, 0 ≤ τ10.2.1 22 j ∧ τ10.2.1 22 j ≤ 1499 := fun j => hT.2 22 j
          have A23 : ∀ j, 0 ≤ τ10.2.1 23 j ∧ τ10.2.1 23 j ≤ 999 := fun j => hT.2 23 j
          have A24 : ∀ j, 0 ≤ τ10.2.1 24 j ∧ τ10.2.1 24 j ≤ 999 := fun j => hT.2 24 j
          have A26 : ∀ j, (-2147483648) ≤ τ10.2.1 26 j ∧ τ10.2.1 26 j ≤ 2147483647 := fun j => hT.2 26 j
          have A27 : ∀ j, 0 ≤ τ10.2.1 27 j ∧ τ10.2.1 27 j ≤ 90000 := fun j => hT.2 27 j
          have A28 : ∀ j, 0 ≤ τ10.2.1 28 j ∧ τ10.2.1 28 j ≤ 60 := fun j => hT.2 28 j
          have A29 : ∀ j, 0 ≤ τ10.2.1 29 j ∧ τ10.2.1 29 j ≤ 1499 := fun j => hT.2 29 j
          have A30 : ∀ j, 0 ≤ τ10.2.1 30 j ∧ τ10.2.1 30 j ≤ 20000 := fun j => hT.2 30 j
          have A31 : ∀ j, 0 ≤ τ10.2.1 31 j ∧ τ10.2.1 31 j ≤ 20000 := fun j => hT.2 31 j
          have A32 : ∀ j, 0 ≤ τ10.2.1 32 j ∧ τ10.2.1 32 j ≤ 999999 := fun j => hT.2 32 j
          have A33 : ∀ j, 0 ≤ τ10.2.1 33 j ∧ τ10.2.1 33 j ≤ 20000 := fun j => hT.2 33 j
          have A34 : ∀ j, 0 ≤ τ10.2.1 34 j ∧ τ10.2.1 34 j ≤ 20000 := fun j => hT.2 34 j
          have A35 : ∀ j, 0 ≤ τ10.2.1 35 j ∧ τ10.2.1 35 j ≤ 1499 := fun j => hT.2 35 j
          have A36 : ∀ j, 0 ≤ τ10.2.1 36 j ∧ τ10.2.1 36 j ≤ 20000 := fun j => hT.2 36 j
          have A37 : ∀ j, 0 ≤ τ10.2.1 37 j ∧ τ10.2.1 37 j ≤ 19999 := fun j => hT.2 37 j
          have A44 : ∀ j, 0 ≤ τ10.2.1 44 j ∧ τ10.2.1 44 j ≤ 42000 := fun j => hT.2 44 j
          have A45 : ∀ j, 0 ≤ τ10.2.1 45 j ∧ τ10.2.1 45 j ≤ 1000 := fun j => hT.2 45 j
          have A49 : ∀ j, (-300) ≤ τ10.2.1 49 j ∧ τ10.2.1 49 j ≤ 67035 := fun j => hT.2 49 j
          have A51 : ∀ j, 0 ≤ τ10.2.1 51 j ∧ τ10.2.1 51 j ≤ 1499 := fun j => hT.2 51 j
          have A54 : ∀ j, 0 ≤ τ10.2.1 54 j ∧ τ10.2.1 54 j ≤ 999 := fun j => hT.2 54 j
          have v3 : 0 ≤ τ10.1 3 ∧ τ10.1 3 ≤ 2500 := hT.1 3
          have v4 : 0 ≤ τ10.1 4 ∧ τ10.1 4 ≤ 100 := hT.1 4
          have v5 : 0 ≤ τ10.1 5 ∧ τ10.1 5 ≤ 1000 := hT.1 5
          have v6 : 0 ≤ τ10.1 6 ∧ τ10.1 6 ≤ 30000 := hT.1 6
          have v7 : 0 ≤ τ10.1 7 ∧ τ10.1 7 ≤ 1500 := hT.1 7
          have v8 : 0 ≤ τ10.1 8 ∧ τ10.1 8 ≤ 1000 := hT.1 8
          have v9 : 0 ≤ τ10.1 9 ∧ τ10.1 9 ≤ 1500 := hT.1 9
          have v10 : 0 ≤ τ10.1 10 ∧ τ10.1 10 ≤ 1000 := hT.1 10
          have v11 : 0 ≤ τ10.1 11 ∧ τ10.1 11 ≤ 50 := hT.1 11
          have v12 : (-2147483648) ≤ τ10.1 12 ∧ τ10.1 12 ≤ 2147483647 := hT.1 12
          have v13 : 0 ≤ τ10.1 13 ∧ τ10.1 13 ≤ 90000 := hT.1 13
          have v14 : 0 ≤ τ10.1 14 ∧ τ10.1 14 ≤ 20000 := hT.1 14
          have v15 : 0 ≤ τ10.1 15 ∧ τ10.1 15 ≤ 20000 := hT.1 15
          have v16 : 0 ≤ τ10.1 16 ∧ τ10.1 16 ≤ 20000 := hT.1 16
          have v21 : 0 ≤ τ10.1 21 ∧ τ10.1 21 ≤ 20000 := hT.1 21
          have v22 : 0 ≤ τ10.1 22 ∧ τ10.1 22 ≤ 300 := hT.1 22
          have v23 : 0 ≤ τ10.1 23 ∧ τ10.1 23 ≤ 300 := hT.1 23
          have v24 : 0 ≤ τ10.1 24 ∧ τ10.1 24 ≤ 1499 := hT.1 24
          have v25 : 0 ≤ τ10.1 25 ∧ τ10.1 25 ≤ 3 := hT.1 25
          have v26 : 0 ≤ τ10.1 26 ∧ τ10.1 26 ≤ 5000010 := hT.1 26
          have v27 : 0 ≤ τ10.1 27 ∧ τ10.1 27 ≤ 1 := hT.1 27
          have v35 : 0 ≤ τ10.1 35 ∧ τ10.1 35 ≤ 7 := hT.1 35
          have v36 : 0 ≤ τ10.1 36 ∧ τ10.1 36 ≤ 1001 := hT.1 36
          have v37 : 0 ≤ τ10.1 37 ∧ τ10.1 37 ≤ 4 := hT.1 37
          have a14_7 : 0 ≤ τ10.2.1 14 (τ10.1 7) ∧ τ10.2.1 14 (τ10.1 7) ≤ 30000 := hT.2 14 _
          have a36_15 : 0 ≤ τ10.2.1 36 (τ10.1 15) ∧ τ10.2.1 36 (τ10.1 15) ≤ 20000 := hT.2 36 _
          have av13 : σ.1 13 ≤ τ10.1 13 := ag.1 13 (by decide)
          have av14 : σ.1 14 ≤ τ10.1 14 := ag.1 14 (by decide)
          exact ⟨hT, (show 0 ≤ 0 ∧ 0 ≤ 19 from by (first | assumption | omega | (simp only [st_s] <;> omega) | fail)), (show J_ht (τ10.1 3) (τ10.2.1 2) (τ10.2.1 3) (τ10.2.1 5) (τ10.2.1 6) from HT), (show J_mn (τ10.1 3) (τ10.1 5) ((τ10.1 7) + 1) (τ10.2.1 4) from MN), (show J_rks (τ10.1 5) (τ10.1 4) (τ10.2.1 10) (τ10.2.1 11) from RKS), (show J_vs (τ10.1 8) (τ10.1 5) (τ10.2.1 20) from VS), (show J_vs (τ10.1 6) (τ10.1 5) (τ10.2.1 15) from TX), (show J_va (τ10.1 8) 1000 (τ10.2.1 18) (τ10.2.1 20) from VA), (show J_mk (τ10.1 11) (τ10.1 8) (τ10.1 9) (τ10.1 10) (τ10.2.1 25) from MK), (show J_sc (τ10.1 7) (τ10.1 9) (τ10.2.1 13) (τ10.2.1 14) (τ10.2.1 15) (τ10.2.1 16) (τ10.2.1 22) (τ10.2.1 19) from SC), (show J_ff (τ10.1 5) (τ10.1 7) (τ10.2.1 9) (τ10.2.1 13) (τ10.2.1 14) (τ10.2.1 15) from FF), (show ∀ s : Int, τ10.2.1 26 s ≤ (τ10.1 12) from MT), (show J_all (τ10.1 7) (τ10.1 6) (τ10.1 13) (τ10.1 14) (τ10.1 15) (τ10.2.1 13) (τ10.2.1 14) (τ10.2.1 15) (τ10.2.1 16) (τ10.2.1 10) (τ10.2.1 27) (τ10.2.1 28) (τ10.2.1 29) (τ10.2.1 30) (τ10.2.1 31) (τ10.2.1 32) (τ10.2.1 33) (τ10.2.1 34) (τ10.2.1 35) (τ10.2.1 36) (τ10.2.1 37) from by (first | exact CJ | exact c_J_ag CJ_0 hT0 ag (by omega) (by first | exact j_rr0 _ _ | (rw [G10]; exact j_rr0 _ _)) TX_0 CH (by omega) | fail)), (show J_bp (τ10.2.1 44) (τ10.2.1 45) from BP), (show J_nl (τ10.1 3) (τ10.2.1 2) (τ10.2.1 3) (τ10.2.1 4) from NL), (show 0 = 0 → J_rs (τ10.1 35) (τ10.1 7) (τ10.1 6) (τ10.1 36) (τ10.1 37) (τ10.1 5) (τ10.1 8) (τ10.2.1 14) from by (first | (intro z; exfalso; omega) | (intro z; unfold J_rs; omega) | (intro z; unfold J_rs; rw [G14, W7]; omega) | fail)), (show 0 = 0 → 5 ≤ (τ10.1 35) → 1 ≤ (τ10.1 36) → 0 ≤ τ10.2.1 10 (τ10.2.1 15 (τ10.2.1 14 (τ10.1 7))) from by (first | (intro z; exfalso; omega) | (intro z y; exfalso; omega) | exact fun _ => uc | (intro z y y2; exact uc (by omega) (by omega)) | (intro z y y2; exfalso; omega) | (intro z y y2; rw [G10, G14, G15, W7]; exact uc (by omega) (by omega)) | fail)), (show 0 = 0 → (τ10.1 35) = 4 → j_in (τ10.1 36) 1000 (τ10.2.1 54) from by (first | (intro z; exfalso; omega) | (intro z y; exfalso; omega) | exact fun _ => dj | fail)), (show 0 = 0 → 5 ≤ (τ10.1 35) → J_ip (τ10.1 7) (τ10.1 6) (τ10.1 37) (τ10.2.1 14) (τ10.2.1 15) (τ10.2.1 16) (τ10.2.1 19) from by (first | (intro z; exfalso; omega) | (intro z y; exfalso; omega) | exact fun _ => ipx | (intro z y; exact ipx (by omega)) | (intro z y; rw [W7, W6, W37, G14, G15, G16, G19]; exact ipx (by omega)) | fail)), (show 0 = 0 → ((τ10.1 35) ≤ 5 → (τ10.1 13) ≤ 60 * (τ10.1 7)) ∧ (τ10.1 13) ≤ 60 * (τ10.1 7) + 60 from by (intro z; omega)), (show 0 = 0 → 6 ≤ (τ10.1 35) → (τ10.1 24) = (τ10.1 7) ∧ J_f (τ10.1 7) (τ10.1 13) (τ10.1 14) (τ10.2.1 13) (τ10.2.1 14) (τ10.2.1 15) (τ10.2.1 16) (τ10.2.1 27) (τ10.2.1 28) (τ10.2.1 29) (τ10.2.1 30) (τ10.2.1 31) (τ10.2.1 32) from by (first | (intro z; exfalso; omega) | (intro z y; refine ⟨by omega, ?_⟩; rw [w7_τ10, w13_τ10, w14_τ10, g13_τ10, g14_τ10, g15_τ10, g16_τ10, g27_τ10, g28_τ10, g29_τ10, g30_τ10, g31_τ10, g32_τ10, w7_τ6]; exact q4_7 c7) | fail)), (show 0 = 0 → 6 ≤ (τ10.1 35) → J_sp (τ10.1 24) (τ10.1 21) (τ10.1 23) (τ10.1 22) (τ10.2.1 49) (τ10.2.1 51) ∧ ((τ10.1 16) + (τ10.1 21) ≤ 20000) ∧ (¬ (τ10.1 27) = 0 → 1 ≤ (τ10.1 21) ∧ 0 ≤ τ10.2.1 49 ((τ10.1 21) - 1) ∧ τ10.2.1 49 ((τ10.1 21) - 1) < 65536) ∧ ((τ10.1 26) ≤ 1000000) ∧ ((τ10.1 25) ≤ 2 → (τ10.1 27) = 0) from by (first | (intro z; exfalso; omega) | (intro z y; refine ⟨?_, by omega, by omega, by omega, by omega⟩; rw [q8_2, q8_1, q8_5, q8_4]; exact J_sp0 _ _ _) | fail)), (show 0 = 0 → (τ10.1 15) ≤ (τ10.1 16) ∧ τ10.2.1 36 (τ10.1 15) ≤ (τ10.1 16) from by (intro z; first | exact sux | omega)), (show 0 = 0 → (τ10.1 9) ≤ (τ10.1 7) from by (intro z; omega)), (show j_rr ((σ.1 5)) (σ.2.1 10) (τ10.2.1 10) from by (first | exact j_rr0 _ _ | (rw [G10]; exact j_rr0 _ _) | fail)), (show j_eq (σ.2.1 36 (σ.1 15)) (σ.2.1 37) (τ10.2.1 37) from CH), (show (τ10.1 12) ≤ (σ.1 12) + 1 from by (first | assumption | omega | (simp only [st_s] <;> omega) | fail)), (show c_Y σ τ10 from by (first | exact c_Y0 _ | exact c_Y_g W4 G11 G20 G22 G25 | fail)), ag⟩
        ·
          exact ⟨hT, (show 0 ≤ 5 ∧ 5 ≤ 19 from by (first | assumption | omega | (simp only [st_s] <;> omega) | fail)), (show J_ht (τ6.1 3) (τ6.2.1 2) (τ6.2.1 3) (τ6.2.1 5) (τ6.2.1 6) from HT), (show J_mn (τ6.1 3) (τ6.1 5) ((τ6.1 7) + 1) (τ6.2.1 4) from MN), (show J_rks (τ6.1 5) (τ6.1 4) (τ6.2.1 10) (τ6.2.1 11) from RKS), (show J_vs (τ6.1 8) (τ6.1 5) (τ6.2.1 20) from VS), (show J_vs (τ6.1 6) (τ6.1 5) (τ6.2.1 15) from TX), (show J_va (τ6.1 8) 1000 (τ6.2.1 18) (τ6.2.1 20) from VA), (show J_mk (τ6.1 11) (τ6.1 8) (τ6.1 9) (τ6.1 10) (τ6.2.1 25) from MK), (show J_sc (τ6.1 7) (τ6.1 9) (τ6.2.1 13) (τ6.2.1 14) (τ6.2.1 15) (τ6.2.1 16) (τ6.2.1 22) (τ6.2.1 19) from SC), (show J_ff (τ6.1 5) (τ6.1 7) (τ6.2.1 9) (τ6.2.1 13) (τ6.2.1 14) (τ6.2.1 15) from FF), (show ∀ s : Int, τ6.2.1 26 s ≤ (τ6.1 12) from MT), (show J_all (τ6.1 7) (τ6.1 6) (τ6.1 13) (τ6.1 14) (τ6.1 15) (τ6.2.1 13) (τ6.2.1 14) (τ6.2.1 15) (τ6.2.1 16) (τ6.2.1 10) (τ6.2.1 27) (τ6.2.1 28) (τ6.2.1 29) (τ6.2.1 30) (τ6.2.1 31) (τ6.2.1 32) (τ6.2.1 33) (τ6.2.1 34) (τ6.2.1 35) (τ6.2.1 36) (τ6.2.1 37) from by (first | exact CJ | exact c_J_ag CJ_0 hT0 ag (by omega) (by first | exact j_rr0 _ _ | (rw [G10]; exact j_rr0 _ _)) TX_0 CH (by omega) | fail)), (show J_bp (τ6.2.1 44) (τ6.2.1 45) from BP), (show J_nl (τ6.1 3) (τ6.2.1 2) (τ6.2.1 3) (τ6.2.1 4) from NL), (show 5 = 0 → J_rs (τ6.1 35) (τ6.1 7) (τ6.1 6) (τ6.1 36) (τ6.1 37) (τ6.1 5) (τ6.1 8) (τ6.2.1 14) from by (first | (intro z; exfalso; omega) | (intro z; unfold J_rs; omega) | (intro z; unfold J_rs; rw [G14, W7]; omega) | fail)), (show 5 = 0 → 5 ≤ (τ6.1 35) → 1 ≤ (τ6.1 36) → 0 ≤ τ6.2.1 10 (τ6.2.1 15 (τ6.2.1 14 (τ6.1 7))) from by (first | (intro z; exfalso; omega) | (intro z y; exfalso; omega) | exact fun _ => uc | (intro z y y2; exact uc (by omega) (by omega)) | (intro z y y2; exfalso; omega) | (intro z y y2; rw [G10, G14, G15, W7]; exact uc (by omega) (by omega)) | fail)), (show 5 = 0 → (τ6.1 35) = 4 → j_in (τ6.1 36) 1000 (τ6.2.1 54) from by (first | (intro z; exfalso; omega) | (intro z y; exfalso; omega) | exact fun _ => dj | fail)), (show 5 = 0 → 5 ≤ (τ6.1 35) → J_ip (τ6.1 7) (τ6.1 6) (τ6.1 37) (τ6.2.1 14) (τ6.2.1 15) (τ6.2.1 16) (τ6.2.1 19) from by (first | (intro z; exfalso; omega) | (intro z y; exfalso; omega) | exact fun _ => ipx | (intro z y; exact ipx (by omega)) | (intro z y; rw [W7, W6, W37, G14, G15, G16, G19]; exact ipx (by omega)) | fail)), (show 5 = 0 → ((τ6.1 35) ≤ 5 → (τ6.1 13) ≤ 60 * (τ6.1 7)) ∧ (τ6.1 13) ≤ 60 * (τ6.1 7) + 60 from by (intro z; omega)), (show 5 = 0 → 6 ≤ (τ6.1 35) → (τ6.1 24) = (τ6.1 7) ∧ J_f (τ6.1 7) (τ6.1 13) (τ6.1 14) (τ6.2.1 13) (τ6.2.1 14) (τ6.2.1 15) (τ6.2.1 16) (τ6.2.1 27) (τ6.2.1 28) (τ6.2.1 29) (τ6.2.1 30) (τ6.2.1 31) (τ6.2.1 32) from by (first | (intro z; exfalso; omega) | (intro z y; refine ⟨by omega, ?_⟩; rw [w7_τ10, w13_τ10, w14_τ10, g13_τ10, g14_τ10, g15_τ10, g16_τ10, g27_τ10, g28_τ10, g29_τ10, g30_τ10, g31_τ10, g32_τ10, w7_τ6]; exact q4_7 c7) | fail)), (show 5 = 0 → 6 ≤ (τ6.1 35) → J_sp (τ6.1 24) (τ6.1 21) (τ6.1 23) (τ6.1 22) (τ6.2.1 49) (τ6.2.1 51) ∧ ((τ6.1 16) + (τ6.1 21) ≤ 20000) ∧ (¬ (τ6.1 27) = 0 → 1 ≤ (τ6.1 21) ∧ 0 ≤ τ6.2.1 49 ((τ6.1 21) - 1) ∧ τ6.2.1 49 ((τ6.1 21) - 1) < 65536) ∧ ((τ6.1 26) ≤ 1000000) ∧ ((τ6.1 25) ≤ 2 → (τ6.1 27) = 0) from by (first | (intro z; exfalso; omega) | (intro z y; refine ⟨?_, by omega, by omega, by omega, by omega⟩; rw [q8_2, q8_1, q8_5, q8_4]; exact J_sp0 _ _ _) | fail)), (show 5 = 0 → (τ6.1 15) ≤ (τ6.1 16) ∧ τ6.2.1 36 (τ6.1 15) ≤ (τ6.1 16) from by (intro z; first | exact sux | omega)), (show 5 = 0 → (τ6.1 9) ≤ (τ6.1 7) from by (intro z; omega)), (show j_rr ((σ.1 5)) (σ.2.1 10) (τ6.2.1 10) from by (first | exact j_rr0 _ _ | (rw [G10]; exact j_rr0 _ _) | fail)), (show j_eq (σ.2.1 36 (σ.1 15)) (σ.2.1 37) (τ6.2.1 37) from CH), (show (τ6.1 12) ≤ (σ.1 12) + 1 from by (first | assumption | omega | (simp only [st_s] <;> omega) | fail)), (show c_Y σ τ6 from by (first | exact c_Y0 _ | exact c_Y_g W4 G11 G20 G22 G25 | fail)), ag⟩
      ·
        exact ⟨hT, (show 0 ≤ 4 ∧ 4 ≤ 19 from by (first | assumption | omega | (simp only [st_s] <;> omega) | fail)), (show J_ht (σ.1 3) (σ.2.1 2) (σ.2.1 3) (σ.2.1 5) (σ.2.1 6) from HT), (show J_mn (σ.1 3) (σ.1 5) ((σ.1 7) + 1) (σ.2.1 4) from MN), (show J_rks (σ.1 5) (σ.1 4) (σ.2.1 10) (σ.2.1 11) from RKS), (show J_vs (σ.1 8) (σ.1 5) (σ.2.1 20) from VS), (show J_vs (σ.1 6) (σ.1 5) (σ.2.1 15) from TX), (show J_va (σ.1 8) 1000 (σ.2.1 18) (σ.2.1 20) from VA), (show J_mk (σ.1 11) (σ.1 8) (σ.1 9) (σ.1 10) (σ.2.1 25) from MK), (show J_sc (σ.1 7) (σ.1 9) (σ.2.1 13) (σ.2.1 14) (σ.2.1 15) (σ.2.1 16) (σ.2.1 22) (σ.2.1 19) from SC), (show J_ff (σ.1 5) (σ.1 7) (σ.2.1 9) (σ.2.1 13) (σ.2.1 14) (σ.2.1 15) from FF), (show ∀ s : Int, σ.2.1 26 s ≤ (σ.1 12) from MT), (show J_all (σ.1 7) (σ.1 6) (σ.1 13) (σ.1 14) (σ.1 15) (σ.2.1 13) (σ.2.1 14) (σ.2.1 15) (σ.2.1 16) (σ.2.1 10) (σ.2.1 27) (σ.2.1 28) (σ.2.1 29) (σ.2.1 30) (σ.2.1 31) (σ.2.1 32) (σ.2.1 33) (σ.2.1 34) (σ.2.1 35) (σ.2.1 36) (σ.2.1 37) from CJ), (show J_bp (σ.2.1 44) (σ.2.1 45) from BP), (show J_nl (σ.1 3) (σ.2.1 2) (σ.2.1 3) (σ.2.1 4) from NL), (show 4 = 0 → J_rs (σ.1 35) (σ.1 7) (σ.1 6) (σ.1 36) (σ.1 37) (σ.1 5) (σ.1 8) (σ.2.1 14) from by (first | (intro z; exfalso; omega) | (intro z; unfold J_rs; omega) | (intro z; unfold J_rs; rw [G14, W7]; omega) | fail)), (show 4 = 0 → 5 ≤ (σ.1 35) → 1 ≤ (σ.1 36) → 0 ≤ σ.2.1 10 (σ.2.1 15 (σ.2.1 14 (σ.1 7))) from by (first | (intro z; exfalso; omega) | (intro z y; exfalso; omega) | exact fun _ => uc | (intro z y y2; exact uc (by omega) (by omega)) | (intro z y y2; exfalso; omega) | (intro z y y2; rw [G10, G14, G15, W7]; exact uc (by omega) (by omega)) | fail)), (show 4 = 0 → (σ.1 35) = 4 → j_in (σ.1 36) 1000 (σ.2.1 54) from by (first | (intro z; exfalso; omega) | (intro z y; exfalso; omega) | exact fun _ => dj | fail)), (show 4 = 0 → 5 ≤ (σ.1 35) → J_ip (σ.1 7) (σ.1 6) (σ.1 37) (σ.2.1 14) (σ.2.1 15) (σ.2.1 16) (σ.2.1 19) from by (first | (intro z; exfalso; omega) | (intro z y; exfalso; omega) | exact fun _ => ipx | (intro z y; exact ipx (by omega)) | (intro z y; rw [W7, W6, W37, G14, G15, G16, G19]; exact ipx (by omega)) | fail)), (show 4 = 0 → ((σ.1 35) ≤ 5 → (σ.1 13) ≤ 60 * (σ.1 7)) ∧ (σ.1 13) ≤ 60 * (σ.1 7) + 60 from by (intro z; omega)), (show 4 = 0 → 6 ≤ (σ.1 35) → (σ.1 24) = (σ.1 7) ∧ J_f (σ.1 7) (σ.1 13) (σ.1 14) (σ.2.1 13) (σ.2.1 14) (σ.2.1 15) (σ.2.1 16) (σ.2.1 27) (σ.2.1 28) (σ.2.1 29) (σ.2.1 30) (σ.2.1 31) (σ.2.1 32) from by (first | (intro z; exfalso; omega) | (intro z y; refine ⟨by omega, ?_⟩; rw [w7_τ10, w13_τ10, w14_τ10, g13_τ10, g14_τ10, g15_τ10, g16_τ10, g27_τ10, g28_τ10, g29_τ10, g30_τ10, g31_τ10, g32_τ10, w7_τ6]; exact q4_7 c7) | fail)), (show 4 = 0 → 6 ≤ (σ.1 35) → J_sp (σ.1 24) (σ.1 21) (σ.1 23) (σ.1 22) (σ.2.1 49) (σ.2.1 51) ∧ ((σ.1 16) + (σ.1 21) ≤ 20000) ∧ (¬ (σ.1 27) = 0 → 1 ≤ (σ.1 21) ∧ 0 ≤ σ.2.1 49 ((σ.1 21) - 1) ∧ σ.2.1 49 ((σ.1 21) - 1) < 65536) ∧ ((σ.1 26) ≤ 1000000) ∧ ((σ.1 25) ≤ 2 → (σ.1 27) = 0) from by (first | (intro z; exfalso; omega) | (intro z y; refine ⟨?_, by omega, by omega, by omega, by omega⟩; rw [q8_2, q8_1, q8_5, q8_4]; exact J_sp0 _ _ _) | fail)), (show 4 = 0 → (σ.1 15) ≤ (σ.1 16) ∧ σ.2.1 36 (σ.1 15) ≤ (σ.1 16) from by (intro z; first | exact sux | omega)), (show 4 = 0 → (σ.1 9) ≤ (σ.1 7) from by (intro z; omega)), (show j_rr ((σ.1 5)) (σ.2.1 10) (σ.2.1 10) from by (first | exact j_rr0 _ _ | (rw [G10]; exact j_rr0 _ _) | fail)), (show j_eq (σ.2.1 36 (σ.1 15)) (σ.2.1 37) (σ.2.1 37) from CH), (show (σ.1 12) ≤ (σ.1 12) + 1 from by (first | assumption | omega | (simp only [st_s] <;> omega) | fail)), (show c_Y σ σ from by (first | exact c_Y0 _ | exact c_Y_g W4 G11 G20 G22 G25 | fail)), ag⟩
set_option maxHeartbeats 1000000 in
theorem K2_X7_statement {n1 : Int} {σ : S0} (hT : c_T σ) : W_X7_statement n1 σ (fun (x : Int) (τ : S0) => (c_T τ) ∧ (x = 0) ∧ ((τ.1 36) = 0) ∧ ((τ.1 35) = 5)) := by
  have v35 : 0 ≤ σ.1 35 ∧ σ.1 35 ≤ 7 := hT.1 35
  have v36 : 0 ≤ σ.1 36 ∧ σ.1 36 ≤ 1001 := hT.1 36
  intro P42 h42
  replace hT := cT_v (i := 36) hT (show (0 : Int) ≤ 0 ∧ 0 ≤ 1001 from by (first | assumption | omega | (simp only [st_s] <;> omega) | fail))
  replace hT := cT_v (i := 35) hT (show (0 : Int) ≤ 5 ∧ 5 ≤ 7 from by (first | assumption | omega | (simp only [st_s] <;> omega) | fail))
  refine ⟨fun c1 => ?_, fun c1 => ?_⟩
  ·
    refine ⟨fun c2 => ?_, fun c2 => ?_⟩
    ·
      refine ⟨fun c3 => ?_, fun c3 => ?_⟩
      ·
        obtain ⟨τ_42, e_τ_42⟩ : ∃ z : S0, z = s_v (s_v σ 36 0) 35 5 := ⟨_, rfl⟩
        rw [← e_τ_42]
        replace hT : c_T τ_42 := by rw [e_τ_42]; exact hT
        have w35_τ_42 : τ_42.1 35 = 5 := by rw [e_τ_42]; rfl
        have w36_τ_42 : τ_42.1 36 = 0 := by rw [e_τ_42]; rfl
        have v35 : 0 ≤ τ_42.1 35 ∧ τ_42.1 35 ≤ 7 := hT.1 35
        have v36 : 0 ≤ τ_42.1 36 ∧ τ_42.1 36 ≤ 1001 := hT.1 36
        refine h42 _ _ ?_
        replace hT := cT_v (i := 37) hT (show (0 : Int) ≤ 3 ∧ 3 ≤ 4 from by (first | assumption | omega | (simp only [st_s] <;> omega) | fail))
        exact ⟨hT, (show 0 = 0 from by (first | assumption | omega | (simp only [st_s] <;> omega) | fail)), (show (τ_42.1 36) = 0 from by (first | assumption | omega | (simp only [st_s] <;> omega) | fail)), (show (τ_42.1 35) = 5 from by (first | assumption | omega | (simp only [st_s] <;> omega) | fail))⟩
      ·
        obtain ⟨τ_42, e_τ_42⟩ : ∃ z : S0, z = s_v (s_v σ 36 0) 35 5 := ⟨_, rfl⟩
        rw [← e_τ_42]
        replace hT : c_T τ_42 := by rw [e_τ_42]; exact hT
        have w35_τ_42 : τ_42.1 35 = 5 := by rw [e_τ_42]; rfl
        have w36_τ_42 : τ_42.1 36 = 0 := by rw [e_τ_42]; rfl
        have v35 : 0 ≤ τ_42.1 35 ∧ τ_42.1 35 ≤ 7 := hT.1 35
        have v36 : 0 ≤ τ_42.1 36 ∧ τ_42.1 36 ≤ 1001 := hT.1 36
        refine h42 _ _ ?_
        replace hT := cT_v (i := 37) hT (show (0 : Int) ≤ 2 ∧ 2 ≤ 4 from by (first | assumption | omega | (simp only [st_s] <;> omega) | fail))
        exact ⟨hT, (show 0 = 0 from by (first | assumption | omega | (simp only [st_s] <;> omega) | fail)), (show (τ_42.1 36) = 0 from by (first | assumption | omega | (simp only [st_s] <;> omega) | fail)), (show (τ_42.1 35) = 5 from by (first | assumption | omega | (simp only [st_s] <;> omega) | fail))⟩
    ·
      obtain ⟨τ_42, e_τ_42⟩ : ∃ z : S0, z = s_v (s_v σ 36 0) 35 5 := ⟨_, rfl⟩
      rw [← e_τ_42]
      replace hT : c_T τ_42 := by rw [e_τ_42]; exact hT
      have w35_τ_42 : τ_42.1 35 = 5 := by rw [e_τ_42]; rfl
      have w36_τ_42 : τ_42.1 36 = 0 := by rw [e_τ_42]; rfl
      have v35 : 0 ≤ τ_42.1 35 ∧ τ_42.1 35 ≤ 7 := hT.1 35
      have v36 : 0 ≤ τ_42.1 36 ∧ τ_42.1 36 ≤ 1001 := hT.1 36
      refine h42 _ _ ?_
      replace hT := cT_v (i := 37) hT (show (0 : Int) ≤ 1 ∧ 1 ≤ 4 from by (first | assumption | omega | (simp only [st_s] <;> omega) | fail))
      exact ⟨hT, (show 0 = 0 from by (first | assumption | omega | (simp only [st_s] <;> omega) | fail)), (show (τ_42.1 36) = 0 from by (first | assumption | omega | (simp only [st_s] <;> omega) | fail)), (show (τ_42.1 35) = 5 from by (first | assumption | omega | (simp only [st_s] <;> omega) | fail))⟩
  ·
    obtain ⟨τ_42, e_τ_42⟩ : ∃ z : S0, z = s_v (s_v σ 36 0) 35 5 := ⟨_, rfl⟩
    rw [← e_τ_42]
    replace hT : c_T τ_42 := by rw [e_τ_42]; exact hT
    have w35_τ_42 : τ_42.1 35 = 5 := by rw [e_τ_42]; rfl
    have w36_τ_42 : τ_42.1 36 = 0 := by rw [e_τ_42]; rfl
    have v35 : 0 ≤ τ_42.1 35 ∧ τ_42.1 35 ≤ 7 := hT.1 35
    have v36 : 0 ≤ τ_42.1 36 ∧ τ_42.1 36 ≤ 1001 := hT.1 36
    refine h42 _ _ ?_
    replace hT := cT_v (i := 37) hT (show (0 : Int) ≤ 0 ∧ 0 ≤ 4 from by (first | assumption | omega | (simp only [st_s] <;> omega) | fail))
    exact ⟨hT, (show 0 = 0 from by (first | assumption | omega | (simp only [st_s] <;> omega) | fail)), (show (τ_42.1 36) = 0 from by (first | assumption | omega | (simp only [st_s] <;> omega) | fail)), (show (τ_42.1 35) = 5 from by (first | assumption | omega | (simp only [st_s] <;> omega) | fail))⟩
set_option maxHeartbeats 1000000 in
theorem K2_X7_declaration {n1 : Int} {σ : S0} (hT : c_T σ) : W_X7_declaration n1 σ (fun (x : Int) (τ : S0) => (c_T τ) ∧ (0 ≤ x ∧ x ≤ 19) ∧ (x = 0 → (τ.1 36) = 0 ∧ 2 ≤ (τ.1 35) ∧ (τ.1 35) ≤ 4)) := by
  have v11 : 0 ≤ σ.1 11 ∧ σ.1 11 ≤ 50 := hT.1 11
  have v35 : 0 ≤ σ.1 35 ∧ σ.1 35 ≤ 7 := hT.1 35
  have v36 : 0 ≤ σ.1 36 ∧ σ.1 36 ≤ 1001 := hT.1 36
  have W11 : σ.1 11 = σ.1 11 := rfl
  intro P19 P46 h19 h46
  refine ⟨fun c1 => ?_, fun c1 => ?_⟩
  ·
    refine h19 _ _ ?_
    replace hT := cT_v (i := 36) hT (show (0 : Int) ≤ 0 ∧ 0 ≤ 1001 from by (first | assumption | omega | (simp only [st_s] <;> omega) | fail))
    refine ⟨fun c3 => ?_, fun c3 => ?_⟩
    ·
      refine ⟨fun c4 => ?_, fun c4 => ?_⟩
      ·
        obtain ⟨τ_46, e_τ_46⟩ : ∃ z : S0, z = s_v σ 36 0 := ⟨_, rfl⟩
        rw [← e_τ_46]
        replace hT : c_T τ_46 := by rw [e_τ_46]; exact hT
        have w11_τ_46 : τ_46.1 11 = σ.1 11 := by rw [e_τ_46]; rfl
        have w35_τ_46 : τ_46.1 35 = σ.1 35 := by rw [e_τ_46]; rfl
        have w36_τ_46 : τ_46.1 36 = 0 := by rw [e_τ_46]; rfl
        have W11 : τ_46.1 11 = σ.1 11 := by omega
        have v11 : 0 ≤ τ_46.1 11 ∧ τ_46.1 11 ≤ 50 := hT.1 11
        have v35 : 0 ≤ τ_46.1 35 ∧ τ_46.1 35 ≤ 7 := hT.1 35
        have v36 : 0 ≤ τ_46.1 36 ∧ τ_46.1 36 ≤ 1001 := hT.1 36
        refine h46 _ _ ?_
        replace hT := cT_v (i := 35) hT (show (0 : Int) ≤ 4 ∧ 4 ≤ 7 from by (first | assumption | omega | (simp only [st_s] <;> omega) | fail))
        exact ⟨hT, (show 0 ≤ 0 ∧ 0 ≤ 19 from by (first | assumption | omega | (simp only [st_s] <;> omega) | fail)), (show 0 = 0 → (τ_46.1 36) = 0 ∧ 2 ≤ (4) ∧ (4) ≤ 4 from by (first | assumption | omega | (simp only [st_s] <;> omega) | fail))⟩
      ·
        obtain ⟨τ_46, e_τ_46⟩ : ∃ z : S0, z = s_v σ 36 0 := ⟨_, rfl⟩
        rw [← e_τ_46]
        replace hT : c_T τ_46 := by rw [e_τ_46]; exact hT
        have w11_τ_46 : τ_46.1 11 = σ.1 11 := by rw [e_τ_46]; rfl
        have w35_τ_46 : τ_46.1 35 = σ.1 35 := by rw [e_τ_46]; rfl
        have w36_τ_46 : τ_46.1 36 = 0 := by rw [e_τ_46]; rfl
        have W11 : τ_46.1 11 = σ.1 11 := by omega
        have v11 : 0 ≤ τ_46.1 11 ∧ τ_46.1 11 ≤ 50 := hT.1 11
        have v35 : 0 ≤ τ_46.1 35 ∧ τ_46.1 35 ≤ 7 := hT.1 35
        have v36 : 0 ≤ τ_46.1 36 ∧ τ_46.1 36 ≤ 1001 := hT.1 36
        refine h46 _ _ ?_
        replace hT := cT_v (i := 35) hT (show (0 : Int) ≤ 3 ∧ 3 ≤ 7 from by (first | assumption | omega | (simp only [st_s] <;> omega) | fail))
        exact ⟨hT, (show 0 ≤ 0 ∧ 0 ≤ 19 from by (first | assumption | omega | (simp only [st_s] <;> omega) | fail)), (show 0 = 0 → (τ_46.1 36) = 0 ∧ 2 ≤ (3) ∧ (3) ≤ 4 from by (first | assumption | omega | (simp only [st_s] <;> omega) | fail))⟩
    ·
      obtain ⟨τ_46, e_τ_46⟩ : ∃ z : S0, z = s_v σ 36 0 := ⟨_, rfl⟩
      rw [← e_τ_46]
      replace hT : c_T τ_46 := by rw [e_τ_46]; exact hT
      have w11_τ_46 : τ_46.1 11 = σ.1 11 := by rw [e_τ_46]; rfl
      have w35_τ_46 : τ_46.1 35 = σ.1 35 := by rw [e_τ_46]; rfl
      have w36_τ_46 : τ_46.1 36 = 0 := by rw [e_τ_46]; rfl
      have W11 : τ_46.1 11 = σ.1 11 := by omega
      have v11 : 0 ≤ τ_46.1 11 ∧ τ_46.1 11 ≤ 50 := hT.1 11
      have v35 : 0 ≤ τ_46.1 35 ∧ τ_46.1 35 ≤ 7 := hT.1 35
      have v36 : 0 ≤ τ_46.1 36 ∧ τ_46.1 36 ≤ 1001 := hT.1 36
      refine h46 _ _ ?_
      replace hT := cT_v (i := 35) hT (show (0 : Int) ≤ 2 ∧ 2 ≤ 7 from by (first | assumption | omega | (simp only [st_s] <;> omega) | fail))
      exact ⟨hT, (show 0 ≤ 0 ∧ 0 ≤ 19 from by (first | assumption | omega | (simp only [st_s] <;> omega) | fail)), (show 0 = 0 → (τ_46.1 36) = 0 ∧ 2 ≤ (2) ∧ (2) ≤ 4 from by (first | assumption | omega | (simp only [st_s] <;> omega) | fail))⟩
  ·
    refine ⟨fun c2 => ?_, fun c2 => ?_⟩
    ·
      refine h19 _ _ ?_
      replace hT := cT_v (i := 36) hT (show (0 : Int) ≤ 0 ∧ 0 ≤ 1001 from by (first | assumption | omega | (simp only [st_s] <;> omega) | fail))
      refine ⟨fun c3 => ?_, fun c3 => ?_⟩
      ·
        refine ⟨fun c4 => ?_, fun c4 => ?_⟩
        ·
          obtain ⟨τ_46, e_τ_46⟩ : ∃ z : S0, z = s_v σ 36 0 := ⟨_, rfl⟩
          rw [← e_τ_46]
          replace hT : c_T τ_46 := by rw [e_τ_46]; exact hT
          have w11_τ_46 : τ_46.1 11 = σ.1 11 := by rw [e_τ_46]; rfl
          have w35_τ_46 : τ_46.1 35 = σ.1 35 := by rw [e_τ_46]; rfl
          have w36_τ_46 : τ_46.1 36 = 0 := by rw [e_τ_46]; rfl
          have W11 : τ_46.1 11 = σ.1 11 := by omega
          have v11 : 0 ≤ τ_46.1 11 ∧ τ_46.1 11 ≤ 50 := hT.1 11
          have v35 : 0 ≤ τ_46.1 35 ∧ τ_46.1 35 ≤ 7 := hT.1 35
          have v36 : 0 ≤ τ_46.1 36 ∧ τ_46.1 36 ≤ 1001 := hT.1 36
          refine h46 _ _ ?_
          replace hT := cT_v (i := 35) hT (show (0 : Int) ≤ 4 ∧ 4 ≤ 7 from by (first | assumption | omega | (simp only [st_s] <;> omega) | fail))
          exact ⟨hT, (show 0 ≤ 0 ∧ 0 ≤ 19 from by (first | assumption | omega | (simp only [st_s] <;> omega) | fail)), (show 0 = 0 → (τ_46.1 36) = 0 ∧ 2 ≤ (4) ∧ (4) ≤ 4 from by (first | assumption | omega | (simp only [st_s] <;> omega) | fail))⟩
        ·
          obtain ⟨τ_46, e_τ_46⟩ : ∃ z : S0, z = s_v σ 36 0 := ⟨_, rfl⟩
          rw [← e_τ_46]
          replace hT : c_T τ_46 := by rw [e_τ_46]; exact hT
          have w11_τ_46 : τ_46.1 11 = σ.1 11 := by rw [e_τ_46]; rfl
          have w35_τ_46 : τ_46.1 35 = σ.1 35 := by rw [e_τ_46]; rfl
          have w36_τ_46 : τ_46.1 36 = 0 := by rw [e_τ_46]; rfl
          have W11 : τ_46.1 11 = σ.1 11 := by omega
          have v11 : 0 ≤ τ_46.1 11 ∧ τ_46.1 11 ≤ 50 := hT.1 11
          have v35 : 0 ≤ τ_46.1 35 ∧ τ_46.1 35 ≤ 7 := hT.1 35
          have v36 : 0 ≤ τ_46.1 36 ∧ τ_46.1 36 ≤ 1001 := hT.1 36
          refine h46 _ _ ?_
          replace hT := cT_v (i := 35) hT (show (0 : Int) ≤ 3 ∧ 3 ≤ 7 from by (first | assumption | omega | (simp only [st_s] <;> omega) | fail))
          exact ⟨hT, (show 0 ≤ 0 ∧ 0 ≤ 19 from by (first | assumption | omega | (simp only [st_s] <;> omega) | fail)), (show 0 = 0 → (τ_46.1 36) = 0 ∧ 2 ≤ (3) ∧ (3) ≤ 4 from by (first | assumption | omega | (simp only [st_s] <;> omega) | fail))⟩
      ·
        obtain ⟨τ_46, e_τ_46⟩ : ∃ z : S0, z = s_v σ 36 0 := ⟨_, rfl⟩
        rw [← e_τ_46]
        replace hT : c_T τ_46 := by rw [e_τ_46]; exact hT
        have w11_τ_46 : τ_46.1 11 = σ.1 11 := by rw [e_τ_46]; rfl
        have w35_τ_46 : τ_46.1 35 = σ.1 35 := by rw [e_τ_46]; rfl
        have w36_τ_46 : τ_46.1 36 = 0 := by rw [e_τ_46]; rfl
        have W11 : τ_46.1 11 = σ.1 11 := by omega
        have v11 : 0 ≤ τ_46.1 11 ∧ τ_46.1 11 ≤ 50 := hT.1 11
        have v35 : 0 ≤ τ_46.1 35 ∧ τ_46.1 35 ≤ 7 := hT.1 35
        have v36 : 0 ≤ τ_46.1 36 ∧ τ_46.1 36 ≤ 1001 := hT.1 36
        refine h46 _ _ ?_
        replace hT := cT_v (i := 35) hT (show (0 : Int) ≤ 2 ∧ 2 ≤ 7 from by (first | assumption | omega | (simp only [st_s] <;> omega) | fail))
        exact ⟨hT, (show 0 ≤ 0 ∧ 0 ≤ 19 from by (first | assumption | omega | (simp only [st_s] <;> omega) | fail)), (show 0 = 0 → (τ_46.1 36) = 0 ∧ 2 ≤ (2) ∧ (2) ≤ 4 from by (first | assumption | omega | (simp only [st_s] <;> omega) | fail))⟩
    ·
      exact ⟨hT, (show 0 ≤ 8 ∧ 8 ≤ 19 from by (first | assumption | omega | (simp only [st_s] <;> omega) | fail)), (show 8 = 0 → (σ.1 36) = 0 ∧ 2 ≤ (σ.1 35) ∧ (σ.1 35) ≤ 4 from by (first | assumption | omega | (simp only [st_s] <;> omega) | fail))⟩
set_option maxHeartbeats 4000000 in
theorem K_X7_keyword {n1 : Int} {σ : S0} (hT : c_T σ) (p1 : J_ht (σ.1 3) (σ.2.1 2) (σ.2.1 3) (σ.2.1 5) (σ.2.1 6)) (p2 : J_mn (σ.1 3) (σ.1 5) ((σ.1 7) + 1) (σ.2.1 4)) (p3 : J_rks (σ.1 5) (σ.1 4) (σ.2.1 10) (σ.2.1 11)) (p4 : J_vs (σ.1 8) (σ.1 5) (σ.2.1 20)) (p5 : J_vs (σ.1 6) (σ.1 5) (σ.2.1 15)) (p6 : J_va (σ.1 8) 1000 (σ.2.1 18) (σ.2.1 20)) (p7 : J_mk (σ.1 11) (σ.1 8) (σ.1 9) (σ.1 10) (σ.2.1 25)) (p8 : J_sc (σ.1 7) (σ.1 9) (σ.2.1 13) (σ.2.1 14) (σ.2.1 15) (σ.2.1 16) (σ.2.1 22) (σ.2.1 19)) (p9 : J_ff (σ.1 5) (σ.1 7) (σ.2.1 9) (σ.2.1 13) (σ.2.1 14) (σ.2.1 15)) (p10 : ∀ s : Int, σ.2.1 26 s ≤ (σ.1 12)) (p11 : J_all (σ.1 7) (σ.1 6) (σ.1 13) (σ.1 14) (σ.1 15) (σ.2.1 13) (σ.2.1 14) (σ.2.1 15) (σ.2.1 16) (σ.2.1 10) (σ.2.1 27) (σ.2.1 28) (σ.2.1 29) (σ.2.1 30) (σ.2.1 31) (σ.2.1 32) (σ.2.1 33) (σ.2.1 34) (σ.2.1 35) (σ.2.1 36) (σ.2.1 37)) (p12 : J_bp (σ.2.1 44) (σ.2.1 45)) (p13 : J_nl (σ.1 3) (σ.2.1 2) (σ.2.1 3) (σ.2.1 4)) (p14 : J_rs (σ.1 35) (σ.1 7) (σ.1 6) (σ.1 36) (σ.1 37) (σ.1 5) (σ.1 8) (σ.2.1 14)) (p15 : 5 ≤ (σ.1 35) → 1 ≤ (σ.1 36) → 0 ≤ σ.2.1 10 (σ.2.1 15 (σ.2.1 14 (σ.1 7)))) (p16 : (σ.1 35) = 4 → j_in (σ.1 36) 1000 (σ.2.1 54)) (p17 : 5 ≤ (σ.1 35) → J_ip (σ.1 7) (σ.1 6) (σ.1 37) (σ.2.1 14) (σ.2.1 15) (σ.2.1 16) (σ.2.1 19)) (p18 : ((σ.1 35) ≤ 5 → (σ.1 13) ≤ 60 * (σ.1 7)) ∧ (σ.1 13) ≤ 60 * (σ.1 7) + 60) (p19 : 6 ≤ (σ.1 35) → (σ.1 24) = (σ.1 7) ∧ J_f (σ.1 7) (σ.1 13) (σ.1 14) (σ.2.1 13) (σ.2.1 14) (σ.2.1 15) (σ.2.1 16) (σ.2.1 27) (σ.2.1 28) (σ.2.1 29) (σ.2.1 30) (σ.2.1 31) (σ.2.1 32)) (p20 : 6 ≤ (σ.1 35) → J_sp (σ.1 24) (σ.1 21) (σ.1 23) (σ.1 22) (σ.2.1 49) (σ.2.1 51) ∧ ((σ.1 16) + (σ.1 21) ≤ 20000) ∧ (¬ (σ.1 27) = 0 → 1 ≤ (σ.1 21) ∧ 0 ≤ σ.2.1 49 ((σ.1 21) - 1) ∧ σ.2.1 49 ((σ.1 21) - 1) < 65536) ∧ ((σ.1 26) ≤ 1000000) ∧ ((σ.1 25) ≤ 2 → (σ.1 27) = 0)) (p21 : (σ.1 15) ≤ (σ.1 16) ∧ σ.2.1 36 (σ.1 15) ≤ (σ.1 16)) (p22 : (σ.1 9) ≤ (σ.1 7)) (p23 : (σ.1 12) < 2147483647) : W_X7_keyword n1 σ (fun (x : Int) (τ : S0) => (c_T τ) ∧ (0 ≤ x ∧ x ≤ 19) ∧ (J_ht (τ.1 3) (τ.2.1 2) (τ.2.1 3) (τ.2.1 5) (τ.2.1 6)) ∧ (J_mn (τ.1 3) (τ.1 5) ((τ.1 7) + 1) (τ.2.1 4)) ∧ (J_rks (τ.1 5) (τ.1 4) (τ.2.1 10) (τ.2.1 11)) ∧ (J_vs (τ.1 8) (τ.1 5) (τ.2.1 20)) ∧ (J_vs (τ.1 6) (τ.1 5) (τ.2.1 15)) ∧ (J_va (τ.1 8) 1000 (τ.2.1 18) (τ.2.1 20)) ∧ (J_mk (τ.1 11) (τ.1 8) (τ.1 9) (τ.1 10) (τ.2.1 25)) ∧ (J_sc (τ.1 7) (τ.1 9) (τ.2.1 13) (τ.2.1 14) (τ.2.1 15) (τ.2.1 16) (τ.2.1 22) (τ.2.1 19)) ∧ (J_ff (τ.1 5) (τ.1 7) (τ.2.1 9) (τ.2.1 13) (τ.2.1 14) (τ.2.1 15)) ∧ (∀ s : Int, τ.2.1 26 s ≤ (τ.1 12)) ∧ (J_all (τ.1 7) (τ.1 6) (τ.1 13) (τ.1 14) (τ.1 15) (τ.2.1 13) (τ.2.1 14) (τ.2.1 15) (τ.2.1 16) (τ.2.1 10) (τ.2.1 27) (τ.2.1 28) (τ.2.1 29) (τ.2.1 30) (τ.2.1 31) (τ.2.1 32) (τ.2.1 33) (τ.2.1 34) (τ.2.1 35) (τ.2.1 36) (τ.2.1 37)) ∧ (J_bp (τ.2.1 44) (τ.2.1 45)) ∧ (J_nl (τ.1 3) (τ.2.1 2) (τ.2.1 3) (τ.2.1 4)) ∧ (x = 0 → J_rs (τ.1 35) (τ.1 7) (τ.1 6) (τ.1 36) (τ.1 37) (τ.1 5) (τ.1 8) (τ.2.1 14)) ∧ (x = 0 → 5 ≤ (τ.1 35) → 1 ≤ (τ.1 36) → 0 ≤ τ.2.1 10 (τ.2.1 15 (τ.2.1 14 (τ.1 7)))) ∧ (x = 0 → (τ.1 35) = 4 → j_in (τ.1 36) 1000 (τ.2.1 54)) ∧ (x = 0 → 5 ≤ (τ.1 35) → J_ip (τ.1 7) (τ.1 6) (τ.1 37) (τ.2.1 14) (τ.2.1 15) (τ.2.1 16) (τ.2.1 19)) ∧ (x = 0 → ((τ.1 35) ≤ 5 → (τ.1 13) ≤ 60 * (τ.1 7)) ∧ (τ.1 13) ≤ 60 * (τ.1 7) + 60) ∧ (x = 0 → 6 ≤ (τ.1 35) → (τ.1 24) = (τ.1 7) ∧ J_f (τ.1 7) (τ.1 13) (τ.1 14) (τ.2.1 13) (τ.2.1 14) (τ.2.1 15) (τ.2.1 16) (τ.2.1 27) (τ.2.1 28) (τ.2.1 29) (τ.2.1 30) (τ.2.1 31) (τ.2.1 32)) ∧ (x = 0 → 6 ≤ (τ.1 35) → J_sp (τ.1 24) (τ.1 21) (τ.1 23) (τ.1 22) (τ.2.1 49) (τ.2.1 51) ∧ ((τ.1 16) + (τ.1 21) ≤ 20000) ∧ (¬ (τ.1 27) = 0 → 1 ≤ (τ.1 21) ∧ 0 ≤ τ.2.1 49 ((τ.1 21) - 1) ∧ τ.2.1 49 ((τ.1 21) - 1) < 65536) ∧ ((τ.1 26) ≤ 1000000) ∧ ((τ.1 25) ≤ 2 → (τ.1 27) = 0)) ∧ (x = 0 → (τ.1 15) ≤ (τ.1 16) ∧ τ.2.1 36 (τ.1 15) ≤ (τ.1 16)) ∧ (x = 0 → (τ.1 9) ≤ (τ.1 7)) ∧ (j_rr ((σ.1 5)) (σ.2.1 10) (τ.2.1 10)) ∧ (j_eq (σ.2.1 36 (σ.1 15)) (σ.2.1 37) (τ.2.1 37)) ∧ ((τ.1 12) ≤ (σ.1 12) + 1) ∧ (c_Y σ τ) ∧ (c_ag σ τ)) := by
  have A2 : ∀ j, 0 ≤ σ.2.1 2 j ∧ σ.2.1 2 j ≤ 65535 := fun j => hT.2 2 j
  have A3 : ∀ j, 0 ≤ σ.2.1 3 j ∧ σ.2.1 3 j ≤ 30000 := fun j => hT.2 3 j
  have A4 : ∀ j, (-1000) ≤ σ.2.1 4 j ∧ σ.2.1 4 j ≤ 1499 := fun j => hT.2 4 j
  have A5 : ∀ j, 0 ≤ σ.2.1 5 j ∧ σ.2.1 5 j ≤ 2500 := fun j => hT.2 5 j
  have A6 : ∀ j, 0 ≤ σ.2.1 6 j ∧ σ.2.1 6 j ≤ 2500 := fun j => hT.2 6 j
  have A8 : ∀ j, 0 ≤ σ.2.1 8 j ∧ σ.2.1 8 j ≤ 1 := fun j => hT.2 8 j
  have A9 : ∀ j, (-1) ≤ σ.2.1 9 j ∧ σ.2.1 9 j ≤ 1499 := fun j => hT.2 9 j
  have A10 : ∀ j, (-1) ≤ σ.2.1 10 j ∧ σ.2.1 10 j ≤ 99 := fun j => hT.2 10 j
  have A11 : ∀ j, 0 ≤ σ.2.1 11 j ∧ σ.2.1 11 j ≤ 999 := fun j => hT.2 11 j
  have A13 : ∀ j, 0 ≤ σ.2.1 13 j ∧ σ.2.1 13 j ≤ 4 := fun j => hT.2 13 j
  have A14 : ∀ j, 0 ≤ σ.2.1 14 j ∧ σ.2.1 14 j ≤ 30000 := fun j => hT.2 14 j
  have A15 : ∀ j, 0 ≤ σ.2.1 15 j ∧ σ.2.1 15 j ≤ 999 := fun j => hT.2 15 j
  have A16 : ∀ j, (-1) ≤ σ.2.1 16 j ∧ σ.2.1 16 j ≤ 1499 := fun j => hT.2 16 j
  have A18 : ∀ j, 0 ≤ σ.2.1 18 j ∧ σ.2.1 18 j ≤ 1 := fun j => hT.2 18 j
  have A19 : ∀ j, (-1) ≤ σ.2.1 19 j ∧ σ.2.1 19 j ≤ 1499 := fun j => hT.2 19 j
  have A20 : ∀ j, 0 ≤ σ.2.1 20 j ∧ σ.2.1 20 j ≤ 999 := fun j => hT.2 20 j
  have A22 : ∀ j, 0 ≤ σ.2.1 22 j ∧ σ.2.1 22 j ≤ 1499 := fun j => hT.2 22 j
  have A23 : ∀ j, 0 ≤ σ.2.1 23 j ∧ σ.2.1 23 j ≤ 999 := fun j => hT.2 23 j
  have A24 : ∀ j, 0 ≤ σ.2.1 24 j ∧ σ.2.1 24 j ≤ 999 := fun j => hT.2 24 j
  have A26 : ∀ j, (-2147483648) ≤ σ.2.1 26 j ∧ σ.2.1 26 j ≤ 2147483647 := fun j => hT.2 26 j
  have A27 : ∀ j, 0 ≤ σ.2.1 27 j ∧ σ.2.1 27 j ≤ 90000 := fun j => hT.2 27 j
  have A28 : ∀ j, 0 ≤ σ.2.1 28 j ∧ σ.2.1 28 j ≤ 60 := fun j => hT.2 28 j
  have A29 : ∀ j, 0 ≤ σ.2.1 29 j ∧ σ.2.1 29 j ≤ 1499 := fun j => hT.2 29 j
  have A30 : ∀ j, 0 ≤ σ.2.1 30 j ∧ σ.2.1 30 j ≤ 20000 := fun j => hT.2 30 j
  have A31 : ∀ j, 0 ≤ σ.2.1 31 j ∧ σ.2.1 31 j ≤ 20000 := fun j => hT.2 31 j
  have A32 : ∀ j, 0 ≤ σ.2.1 32 j ∧ σ.2.1 32 j ≤ 999999 := fun j => hT.2 32 j
  have A33 : ∀ j, 0 ≤ σ.2.1 33 j ∧ σ.2.1 33 j ≤ 20000 := fun j => hT.2 33 j
  have A34 : ∀ j, 0 ≤ σ.2.1 34 j ∧ σ.2.1 34 j ≤ 20000 := fun j => hT.2 34 j
  have A35 : ∀ j, 0 ≤ σ.2.1 35 j ∧ σ.2.1 35 j ≤ 1499 := fun j => hT.2 35 j
  have A36 : ∀ j, 0 ≤ σ.2.1 36 j ∧ σ.2.1 36 j ≤ 20000 := fun j => hT.2 36 j
  have A37 : ∀ j, 0 ≤ σ.2.1 37 j ∧ σ.2.1 37 j ≤ 19999 := fun j => hT.2 37 j
  have A44 : ∀ j, 0 ≤ σ.2.1 44 j ∧ σ.2.1 44 j ≤ 42000 := fun j => hT.2 44 j
  have A45 : ∀ j, 0 ≤ σ.2.1 45 j ∧ σ.2.1 45 j ≤ 1000 := fun j => hT.2 45 j
  have A49 : ∀ j, (-300) ≤ σ.2.1 49 j ∧ σ.2.1 49 j ≤ 67035 := fun j => hT.2 49 j
  have A51 : ∀ j, 0 ≤ σ.2.1 51 j ∧ σ.2.1 51 j ≤ 1499 := fun j => hT.2 51 j
  have A54 : ∀ j, 0 ≤ σ.2.1 54 j ∧ σ.2.1 54 j ≤ 999 := fun j => hT.2 54 j
  have v3 : 0 ≤ σ.1 3 ∧ σ.1 3 ≤ 2500 := hT.1 3
  have v4 : 0 ≤ σ.1 4 ∧ σ.1 4 ≤ 100 := hT.1 4
  have v5 : 0 ≤ σ.1 5 ∧ σ.1 5 ≤ 1000 := hT.1 5
  have v6 : 0 ≤ σ.1 6 ∧ σ.1 6 ≤ 30000 := hT.1 6
  have v7 : 0 ≤ σ.1 7 ∧ σ.1 7 ≤ 1500 := hT.1 7
  have v8 : 0 ≤ σ.1 8 ∧ σ.1 8 ≤ 1000 := hT.1 8
  have v9 : 0 ≤ σ.1 9 ∧ σ.1 9 ≤ 1500 := hT.1 9
  have v10 : 0 ≤ σ.1 10 ∧ σ.1 10 ≤ 1000 := hT.1 10
  have v11 : 0 ≤ σ.1 11 ∧ σ.1 11 ≤ 50 := hT.1 11
  have v12 : (-2147483648) ≤ σ.1 12 ∧ σ.1 12 ≤ 2147483647 := hT.1 12
  have v13 : 0 ≤ σ.1 13 ∧ σ.1 13 ≤ 90000 := hT.1 13
  have v14 : 0 ≤ σ.1 14 ∧ σ.1 14 ≤ 20000 := hT.1 14
  have v15 : 0 ≤ σ.1 15 ∧ σ.1 15 ≤ 20000 := hT.1 15
  have v16 : 0 ≤ σ.1 16 ∧ σ.1 16 ≤ 20000 := hT.1 16
  have v21 : 0 ≤ σ.1 21 ∧ σ.1 21 ≤ 20000 := hT.1 21
  have v22 : 0 ≤ σ.1 22 ∧ σ.1 22 ≤ 300 := hT.1 22
  have v23 : 0 ≤ σ.1 23 ∧ σ.1 23 ≤ 300 := hT.1 23
  have v24 : 0 ≤ σ.1 24 ∧ σ.1 24 ≤ 1499 := hT.1 24
  have v25 : 0 ≤ σ.1 25 ∧ σ.1 25 ≤ 3 := hT.1 25
  have v26 : 0 ≤ σ.1 26 ∧ σ.1 26 ≤ 5000010 := hT.1 26
  have v27 : 0 ≤ σ.1 27 ∧ σ.1 27 ≤ 1 := hT.1 27
  have v35 : 0 ≤ σ.1 35 ∧ σ.1 35 ≤ 7 := hT.1 35
  have v36 : 0 ≤ σ.1 36 ∧ σ.1 36 ≤ 1001 := hT.1 36
  have v37 : 0 ≤ σ.1 37 ∧ σ.1 37 ≤ 4 := hT.1 37
  have a14_7 : 0 ≤ σ.2.1 14 (σ.1 7) ∧ σ.2.1 14 (σ.1 7) ≤ 30000 := hT.2 14 _
  have a36_15 : 0 ≤ σ.2.1 36 (σ.1 15) ∧ σ.2.1 36 (σ.1 15) ≤ 20000 := hT.2 36 _
  have W3 : σ.1 3 = σ.1 3 := rfl
  have W4 : σ.1 4 = σ.1 4 := rfl
  have W5 : σ.1 5 = σ.1 5 := rfl
  have W6 : σ.1 6 = σ.1 6 := rfl
  have W7 : σ.1 7 = σ.1 7 := rfl
  have W15 : σ.1 15 = σ.1 15 := rfl
  have W16 : σ.1 16 = σ.1 16 := rfl
  have G2 : σ.2.1 2 = σ.2.1 2 := rfl
  have G3 : σ.2.1 3 = σ.2.1 3 := rfl
  have G4 : σ.2.1 4 = σ.2.1 4 := rfl
  have G5 : σ.2.1 5 = σ.2.1 5 := rfl
  have G6 : σ.2.1 6 = σ.2.1 6 := rfl
  have G8 : σ.2.1 8 = σ.2.1 8 := rfl
  have G9 : σ.2.1 9 = σ.2.1 9 := rfl
  have G10 : σ.2.1 10 = σ.2.1 10 := rfl
  have G11 : σ.2.1 11 = σ.2.1 11 := rfl
  have G13 : σ.2.1 13 = σ.2.1 13 := rfl
  have G14 : σ.2.1 14 = σ.2.1 14 := rfl
  have G15 : σ.2.1 15 = σ.2.1 15 := rfl
  have G16 : σ.2.1 16 = σ.2.1 16 := rfl
  have G20 : σ.2.1 20 = σ.2.1 20 := rfl
  have G22 : σ.2.1 22 = σ.2.1 22 := rfl
  have G23 : σ.2.1 23 = σ.2.1 23 := rfl
  have G24 : σ.2.1 24 = σ.2.1 24 := rfl
  have G33 : σ.2.1 33 = σ.2.1 33 := rfl
  have G34 : σ.2.1 34 = σ.2.1 34 := rfl
  have G35 : σ.2.1 35 = σ.2.1 35 := rfl
  have G36 : σ.2.1 36 = σ.2.1 36 := rfl
  have G37 : σ.2.1 37 = σ.2.1 37 := rfl
  have G44 : σ.2.1 44 = σ.2.1 44 := rfl
  have G45 : σ.2.1 45 = σ.2.1 45 := rfl
  have G49 : σ.2.1 49 = σ.2.1 49 := rfl
  have G51 : σ.2.1 51 = σ.2.1 51 := rfl
  have G54 : σ.2.1 54 = σ.2.1 54 := rfl
  have ag : c_ag σ σ := ag_0 σ
  intro P92 P109 h92 h109
  have hT0 := hT
  have t015 : ∀ p : Int, 0 ≤ σ.2.1 15 p ∧ σ.2.1 15 p < 1000 := fun p => ⟨(A15 p).1, by have := (A15 p).2; omega⟩
  have CH := j_eq0 (σ.2.1 36 (σ.1 15)) (σ.2.1 37)
  have jt := c_Jt p11
  have JFx := c_JF jt p8 (fun m => (hT.2 22 m).1) (by omega)
  have FPx := c_FP jt p9 (by omega)
  have uc := p15
  have dj := p16
  have ipx := p17
  have hux := p18
  have frx := p19
  have spx := p20
  have sux := p21
  have hcx := p22
  have rsx := p14
  unfold J_rs at rsx
  have HT : J_ht (σ.1 3) (σ.2.1 2) (σ.2.1 3) (σ.2.1 5) (σ.2.1 6) := p1
  have NL : J_nl (σ.1 3) (σ.2.1 2) (σ.2.1 3) (σ.2.1 4) := p13
  have MN : J_mn (σ.1 3) (σ.1 5) ((σ.1 7) + 1) (σ.2.1 4) := p2
  have VA : J_va (σ.1 8) 1000 (σ.2.1 18) (σ.2.1 20) := p6
  have SC : J_sc (σ.1 7) (σ.1 9) (σ.2.1 13) (σ.2.1 14) (σ.2.1 15) (σ.2.1 16) (σ.2.1 22) (σ.2.1 19) := p8
  have MK : J_mk (σ.1 11) (σ.1 8) (σ.1 9) (σ.1 10) (σ.2.1 25) := p7
  have FF : J_ff (σ.1 5) (σ.1 7) (σ.2.1 9) (σ.2.1 13) (σ.2.1 14) (σ.2.1 15) := p9
  have MT : ∀ s : Int, σ.2.1 26 s ≤ (σ.1 12) := p10
  have VS : J_vs (σ.1 8) (σ.1 5) (σ.2.1 20) := p4
  have TX : J_vs (σ.1 6) (σ.1 5) (σ.2.1 15) := p5
  have RKS : J_rks (σ.1 5) (σ.1 4) (σ.2.1 10) (σ.2.1 11) := p3
  have CJ : J_all (σ.1 7) (σ.1 6) (σ.1 13) (σ.1 14) (σ.1 15) (σ.2.1 13) (σ.2.1 14) (σ.2.1 15) (σ.2.1 16) (σ.2.1 10) (σ.2.1 27) (σ.2.1 28) (σ.2.1 29) (σ.2.1 30) (σ.2.1 31) (σ.2.1 32) (σ.2.1 33) (σ.2.1 34) (σ.2.1 35) (σ.2.1 36) (σ.2.1 37) := p11
  have BP : J_bp (σ.2.1 44) (σ.2.1 45) := p12
  have RS : J_rs (σ.1 35) (σ.1 7) (σ.1 6) (σ.1 36) (σ.1 37) (σ.1 5) (σ.1 8) (σ.2.1 14) := p14
  have BP_0 := BP
  have CH_0 := CH
  have CJ_0 := CJ
  have FF_0 := FF
  have HT_0 := HT
  have MK_0 := MK
  have MN_0 := MN
  have MT_0 := MT
  have NL_0 := NL
  have RKS_0 := RKS
  have RS_0 := RS
  have SC_0 := SC
  have TX_0 := TX
  have VA_0 := VA
  have VS_0 := VS
  refine ⟨fun e0 => ?_, fun e1 => ?_, fun e2 => ?_, fun e3 => ?_, fun e4 => ?_, fun e5 => ?_, fun e6 => ?_, fun e7 => ?_, fun e8 => ?_, fun e9 => ?_, fun en => ?_⟩
  ·
    refine ⟨_, K_X7_proof hT (show J_ht (σ.1 3) (σ.2.1 2) (σ.2.1 3) (σ.2.1 5) (σ.2.1 6) from HT) (show J_mn (σ.1 3) (σ.1 5) ((σ.1 7) + 1) (σ.2.1 4) from MN) (show J_rks (σ.1 5) (σ.1 4) (σ.2.1 10) (σ.2.1 11) from RKS) (show J_vs (σ.1 8) (σ.1 5) (σ.2.1 20) from VS) (show J_vs (σ.1 6) (σ.1 5) (σ.2.1 15) from TX) (show J_va (σ.1 8) 1000 (σ.2.1 18) (σ.2.1 20) from VA) (show J_mk (σ.1 11) (σ.1 8) (σ.1 9) (σ.1 10) (σ.2.1 25) from MK) (show J_sc (σ.1 7) (σ.1 9) (σ.2.1 13) (σ.2.1 14) (σ.2.1 15) (σ.2.1 16) (σ.2.1 22) (σ.2.1 19) from SC) (show J_ff (σ.1 5) (σ.1 7) (σ.2.1 9) (σ.2.1 13) (σ.2.1 14) (σ.2.1 15) from FF) (show ∀ s : Int, σ.2.1 26 s ≤ (σ.1 12) from MT) (show J_all (σ.1 7) (σ.1 6) (σ.1 13) (σ.1 14) (σ.1 15) (σ.2.1 13) (σ.2.1 14) (σ.2.1 15) (σ.2.1 16) (σ.2.1 10) (σ.2.1 27) (σ.2.1 28) (σ.2.1 29) (σ.2.1 30) (σ.2.1 31) (σ.2.1 32) (σ.2.1 33) (σ.2.1 34) (σ.2.1 35) (σ.2.1 36) (σ.2.1 37) from CJ) (show J_bp (σ.2.1 44) (σ.2.1 45) from BP) (show J_nl (σ.1 3) (σ.2.1 2) (σ.2.1 3) (σ.2.1 4) from NL) (show J_rs (σ.1 35) (σ.1 7) (σ.1 6) (σ.1 36) (σ.1 37) (σ.1 5) (σ.1 8) (σ.2.1 14) from RS) (show 5 ≤ (σ.1 35) → 1 ≤ (σ.1 36) → 0 ≤ σ.2.1 10 (σ.2.1 15 (σ.2.1 14 (σ.1 7))) from by (first | assumption | omega | (simp only [st_s] <;> omega) | fail)) (show (σ.1 35) = 4 → j_in (σ.1 36) 1000 (σ.2.1 54) from by (first | assumption | omega | (simp only [st_s] <;> omega) | fail)) (show 5 ≤ (σ.1 35) → J_ip (σ.1 7) (σ.1 6) (σ.1 37) (σ.2.1 14) (σ.2.1 15) (σ.2.1 16) (σ.2.1 19) from by (first | assumption | omega | (simp only [st_s] <;> omega) | fail)) (show ((σ.1 35) ≤ 5 → (σ.1 13) ≤ 60 * (σ.1 7)) ∧ (σ.1 13) ≤ 60 * (σ.1 7) + 60 from by (first | assumption | omega | (simp only [st_s] <;> omega) | fail)) (show 6 ≤ (σ.1 35) → (σ.1 24) = (σ.1 7) ∧ J_f (σ.1 7) (σ.1 13) (σ.1 14) (σ.2.1 13) (σ.2.1 14) (σ.2.1 15) (σ.2.1 16) (σ.2.1 27) (σ.2.1 28) (σ.2.1 29) (σ.2.1 30) (σ.2.1 31) (σ.2.1 32) from by (first | assumption | omega | (simp only [st_s] <;> omega) | fail)) (show 6 ≤ (σ.1 35) → J_sp (σ.1 24) (σ.1 21) (σ.1 23) (σ.1 22) (σ.2.1 49) (σ.2.1 51) ∧ ((σ.1 16) + (σ.1 21) ≤ 20000) ∧ (¬ (σ.1 27) = 0 → 1 ≤ (σ.1 21) ∧ 0 ≤ σ.2.1 49 ((σ.1 21) - 1) ∧ σ.2.1 49 ((σ.1 21) - 1) < 65536) ∧ ((σ.1 26) ≤ 1000000) ∧ ((σ.1 25) ≤ 2 → (σ.1 27) = 0) from by (first | assumption | omega | (simp only [st_s] <;> omega) | fail)) (show (σ.1 15) ≤ (σ.1 16) ∧ σ.2.1 36 (σ.1 15) ≤ (σ.1 16) from by (first | assumption | omega | (simp only [st_s] <;> omega) | fail)) (show (σ.1 9) ≤ (σ.1 7) from by (first | assumption | omega | (simp only [st_s] <;> omega) | fail)) (show (σ.1 12) < 2147483647 from by (first | assumption | omega | (simp only [st_s] <;> omega) | fail)), ?_⟩
    intro x2 τ3 r_x2 hn_τ3 hf_τ3 hq
    obtain ⟨hT, q1_1, q1_2, q1_3, q1_4, q1_5, q1_6, q1_7, q1_8, q1_9, q1_10, q1_11, q1_12, q1_13, q1_14, q1_15, q1_16, q1_17, q1_18, q1_19, q1_20, q1_21, q1_22, q1_23, q1_24, q1_25, q1_26, q1_27, q1_28⟩ := hq
    replace q1_1 : 0 ≤ x2 ∧ x2 ≤ 19 := q1_1
    replace q1_2 : J_ht (τ3.1 3) (τ3.2.1 2) (τ3.2.1 3) (τ3.2.1 5) (τ3.2.1 6) := q1_2
    replace q1_3 : J_mn (τ3.1 3) (τ3.1 5) ((τ3.1 7) + 1) (τ3.2.1 4) := q1_3
    replace q1_4 : J_rks (τ3.1 5) (τ3.1 4) (τ3.2.1 10) (τ3.2.1 11) := q1_4
    replace q1_5 : J_vs (τ3.1 8) (τ3.1 5) (τ3.2.1 20) := q1_5
    replace q1_6 : J_vs (τ3.1 6) (τ3.1 5) (τ3.2.1 15) := q1_6
    replace q1_7 : J_va (τ3.1 8) 1000 (τ3.2.1 18) (τ3.2.1 20) := q1_7
    replace q1_8 : J_mk (τ3.1 11) (τ3.1 8) (τ3.1 9) (τ3.1 10) (τ3.2.1 25) := q1_8
    replace q1_9 : J_sc (τ3.1 7) (τ3.1 9) (τ3.2.1 13) (τ3.2.1 14) (τ3.2.1 15) (τ3.2.1 16) (τ3.2.1 22) (τ3.2.1 19) := q1_9
    replace q1_10 : J_ff (τ3.1 5) (τ3.1 7) (τ3.2.1 9) (τ3.2.1 13) (τ3.2.1 14) (τ3.2.1 15) := q1_10
    replace q1_11 : ∀ s : Int, τ3.2.1 26 s ≤ (τ3.1 12) := q1_11
    replace q1_12 : J_all (τ3.1 7) (τ3.1 6) (τ3.1 13) (τ3.1 14) (τ3.1 15) (τ3.2.1 13) (τ3.2.1 14) (τ3.2.1 15) (τ3.2.1 16) (τ3.2.1 10) (τ3.2.1 27) (τ3.2.1 28) (τ3.2.1 29) (τ3.2.1 30) (τ3.2.1 31) (τ3.2.1 32) (τ3.2.1 33) (τ3.2.1 34) (τ3.2.1 35) (τ3.2.1 36) (τ3.2.1 37) := q1_12
    replace q1_13 : J_bp (τ3.2.1 44) (τ3.2.1 45) := q1_13
    replace q1_14 : J_nl (τ3.1 3) (τ3.2.1 2) (τ3.2.1 3) (τ3.2.1 4) := q1_14
    replace q1_15 : x2 = 0 → J_rs (τ3.1 35) (τ3.1 7) (τ3.1 6) (τ3.1 36) (τ3.1 37) (τ3.1 5) (τ3.1 8) (τ3.2.1 14) := q1_15
    replace q1_16 : x2 = 0 → 5 ≤ (τ3.1 35) → 1 ≤ (τ3.1 36) → 0 ≤ τ3.2.1 10 (τ3.2.1 15 (τ3.2.1 14 (τ3.1 7))) := q1_16
    replace q1_17 : x2 = 0 → (τ3.1 35) = 4 → j_in (τ3.1 36) 1000 (τ3.2.1 54) := q1_17
    replace q1_18 : x2 = 0 → 5 ≤ (τ3.1 35) → J_ip (τ3.1 7) (τ3.1 6) (τ3.1 37) (τ3.2.1 14) (τ3.2.1 15) (τ3.2.1 16) (τ3.2.1 19) := q1_18
    replace q1_19 : x2 = 0 → ((τ3.1 35) ≤ 5 → (τ3.1 13) ≤ 60 * (τ3.1 7)) ∧ (τ3.1 13) ≤ 60 * (τ3.1 7) + 60 := q1_19
    replace q1_20 : x2 = 0 → 6 ≤ (τ3.1 35) → (τ3.1 24) = (τ3.1 7) ∧ J_f (τ3.1 7) (τ3.1 13) (τ3.1 14) (τ3.2.1 13) (τ3.2.1 14) (τ3.2.1 15) (τ3.2.1 16) (τ3.2.1 27) (τ3.2.1 28) (τ3.2.1 29) (τ3.2.1 30) (τ3.2.1 31) (τ3.2.1 32) := q1_20
    replace q1_21 : x2 = 0 → 6 ≤ (τ3.1 35) → J_sp (τ3.1 24) (τ3.1 21) (τ3.1 23) (τ3.1 22) (τ3.2.1 49) (τ3.2.1 51) ∧ ((τ3.1 16) + (τ3.1 21) ≤ 20000) ∧ (¬ (τ3.1 27) = 0 → 1 ≤ (τ3.1 21) ∧ 0 ≤ τ3.2.1 49 ((τ3.1 21) - 1) ∧ τ3.2.1 49 ((τ3.1 21) - 1) < 65536) ∧ ((τ3.1 26) ≤ 1000000) ∧ ((τ3.1 25) ≤ 2 → (τ3.1 27) = 0) := q1_21
    replace q1_22 : x2 = 0 → (τ3.1 15) ≤ (τ3.1 16) ∧ τ3.2.1 36 (τ3.1 15) ≤ (τ3.1 16) := q1_22
    replace q1_23 : x2 = 0 → (τ3.1 9) ≤ (τ3.1 7) := q1_23
    replace q1_24 : j_rr ((σ.1 5)) (σ.2.1 10) (τ3.2.1 10) := q1_24
    replace q1_25 : j_eq (σ.2.1 36 (σ.1 15)) (σ.2.1 37) (τ3.2.1 37) := q1_25
    replace q1_26 : (τ3.1 12) ≤ (σ.1 12) + 1 := q1_26
    replace q1_27 : c_Y σ τ3 := q1_27
    replace q1_28 : c_ag σ τ3 := q1_28
    replace ag : c_ag σ τ3 := ag_t ag q1_28 rfl
    have w3_τ3 : τ3.1 3 = σ.1 3 := hf_τ3.1 3 (by decide)
    have w4_τ3 : τ3.1 4 = σ.1 4 := hf_τ3.1 4 (by decide)
    have w5_τ3 : τ3.1 5 = σ.1 5 := hf_τ3.1 5 (by decide)
    have w6_τ3 : τ3.1 6 = σ.1 6 := hf_τ3.1 6 (by decide)
    have w7_τ3 : τ3.1 7 = σ.1 7 := hf_τ3.1 7 (by decide)
    have w8_τ3 : τ3.1 8 = σ.1 8 := hf_τ3.1 8 (by decide)
    have w9_τ3 : τ3.1 9 = σ.1 9 := hf_τ3.1 9 (by decide)
    have w10_τ3 : τ3.1 10 = σ.1 10 := hf_τ3.1 10 (by decide)
    have w11_τ3 : τ3.1 11 = σ.1 11 := hf_τ3.1 11 (by decide)
    have w15_τ3 : τ3.1 15 = σ.1 15 := hf_τ3.1 15 (by decide)
    have w16_τ3 : τ3.1 16 = σ.1 16 := hf_τ3.1 16 (by decide)
    have w36_τ3 : τ3.1 36 = σ.1 36 := hf_τ3.1 36 (by decide)
    have w37_τ3 : τ3.1 37 = σ.1 37 := hf_τ3.1 37 (by decide)
    have g2_τ3 : τ3.2.1 2 = σ.2.1 2 := hf_τ3.2.1 2 (by decide)
    have g3_τ3 : τ3.2.1 3 = σ.2.1 3 := hf_τ3.2.1 3 (by decide)
    have g4_τ3 : τ3.2.1 4 = σ.2.1 4 := hf_τ3.2.1 4 (by decide)
    have g5_τ3 : τ3.2.1 5 = σ.2.1 5 := hf_τ3.2.1 5 (by decide)
    have g6_τ3 : τ3.2.1 6 = σ.2.1 6 := hf_τ3.2.1 6 (by decide)
    have g8_τ3 : τ3.2.1 8 = σ.2.1 8 := hf_τ3.2.1 8 (by decide)
    have g9_τ3 : τ3.2.1 9 = σ.2.1 9 := hf_τ3.2.1 9 (by decide)
    have g10_τ3 : τ3.2.1 10 = σ.2.1 10 := hf_τ3.2.1 10 (by decide)
    have g11_τ3 : τ3.2.1 11 = σ.2.1 11 := hf_τ3.2.1 11 (by decide)
    have g13_τ3 : τ3.2.1 13 = σ.2.1 13 := hf_τ3.2.1 13 (by decide)
    have g14_τ3 : τ3.2.1 14 = σ.2.1 14 := hf_τ3.2.1 14 (by decide)
    have g15_τ3 : τ3.2.1 15 = σ.2.1 15 := hf_τ3.2.1 15 (by decide)
    have g16_τ3 : τ3.2.1 16 = σ.2.1 16 := hf_τ3.2.1 16 (by decide)
    have g18_τ3 : τ3.2.1 18 = σ.2.1 18 := hf_τ3.2.1 18 (by decide)
    have g19_τ3 : τ3.2.1 19 = σ.2.1 19 := hf_τ3.2.1 19 (by decide)
    have g20_τ3 : τ3.2.1 20 = σ.2.1 20 := hf_τ3.2.1 20 (by decide)
    have g22_τ3 : τ3.2.1 22 = σ.2.1 22 := hf_τ3.2.1 22 (by decide)
    have g23_τ3 : τ3.2.1 23 = σ.2.1 23 := hf_τ3.2.1 23 (by decide)
    have g24_τ3 : τ3.2.1 24 = σ.2.1 24 := hf_τ3.2.1 24 (by decide)
    have g25_τ3 : τ3.2.1 25 = σ.2.1 25 := hf_τ3.2.1 25 (by decide)
    have g33_τ3 : τ3.2.1 33 = σ.2.1 33 := hf_τ3.2.1 33 (by decide)
    have g34_τ3 : τ3.2.1 34 = σ.2.1 34 := hf_τ3.2.1 34 (by decide)
    have g35_τ3 : τ3.2.1 35 = σ.2.1 35 := hf_τ3.2.1 35 (by decide)
    have g36_τ3 : τ3.2.1 36 = σ.2.1 36 := hf_τ3.2.1 36 (by decide)
    have g37_τ3 : τ3.2.1 37 = σ.2.1 37 := hf_τ3.2.1 37 (by decide)
    have g44_τ3 : τ3.2.1 44 = σ.2.1 44 := hf_τ3.2.1 44 (by decide)
    have g45_τ3 : τ3.2.1 45 = σ.2.1 45 := hf_τ3.2.1 45 (by decide)
    have g49_τ3 : τ3.2.1 49 = σ.2.1 49 := hf_τ3.2.1 49 (by decide)
    have g51_τ3 : τ3.2.1 51 = σ.2.1 51 := hf_τ3.2.1 51 (by decide)
    have g54_τ3 : τ3.2.1 54 = σ.2.1 54 := hf_τ3.2.1 54 (by decide)
    have W3 : τ3.1 3 = σ.1 3 := by omega
    have W4 : τ3.1 4 = σ.1 4 := by omega
    have W5 : τ3.1 5 = σ.1 5 := by omega
    have W6 : τ3.1 6 = σ.1 6 := by omega
    have W7 : τ3.1 7 = σ.1 7 := by omega
    have W15 : τ3.1 15 = σ.1 15 := by omega
    have W16 : τ3.1 16 = σ.1 16 := by omega
    have G2 : τ3.2.1 2 = σ.2.1 2 := (g2_τ3).trans G2
    have G3 : τ3.2.1 3 = σ.2.1 3 := (g3_τ3).trans G3
    have G4 : τ3.2.1 4 = σ.2.1 4 := (g4_τ3).trans G4
    have G5 : τ3.2.1 5 = σ.2.1 5 := (g5_τ3).trans G5
    have G6 : τ3.2.1 6 = σ.2.1 6 := (g6_τ3).trans G6
    have G8 : τ3.2.1 8 = σ.2.1 8 := (g8_τ3).trans G8
    have G9 : τ3.2.1 9 = σ.2.1 9 := (g9_τ3).trans G9
    have G10 : τ3.2.1 10 = σ.2.1 10 := (g10_τ3).trans G10
    have G11 : τ3.2.1 11 = σ.2.1 11 := (g11_τ3).trans G11
    have G13 : τ3.2.1 13 = σ.2.1 13 := (g13_τ3).trans G13
    have G14 : τ3.2.1 14 = σ.2.1 14 := (g14_τ3).trans G14
    have G15 : τ3.2.1 15 = σ.2.1 15 := (g15_τ3).trans G15
    have G16 : τ3.2.1 16 = σ.2.1 16 := (g16_τ3).trans G16
    have G20 : τ3.2.1 20 = σ.2.1 20 := (g20_τ3).trans G20
    have G22 : τ3.2.1 22 = σ.2.1 22 := (g22_τ3).trans G22
    have G23 : τ3.2.1 23 = σ.2.1 23 := (g23_τ3).trans G23
    have G24 : τ3.2.1 24 = σ.2.1 24 := (g24_τ3).trans G24
    have G33 : τ3.2.1 33 = σ.2.1 33 := (g33_τ3).trans G33
    have G34 : τ3.2.1 34 = σ.2.1 34 := (g34_τ3).trans G34
    have G35 : τ3.2.1 35 = σ.2.1 35 := (g35_τ3).trans G35
    have G36 : τ3.2.1 36 = σ.2.1 36 := (g36_τ3).trans G36
    have G37 : τ3.2.1 37 = σ.2.1 37 := (g37_τ3).trans G37
    have G44 : τ3.2.1 44 = σ.2.1 44 := (g44_τ3).trans G44
    have G45 : τ3.2.1 45 = σ.2.1 45 := (g45_τ3).trans G45
    have G49 : τ3.2.1 49 = σ.2.1 49 := (g49_τ3).trans G49
    have G51 : τ3.2.1 51 = σ.2.1 51 := (g51_τ3).trans G51
    have G54 : τ3.2.1 54 = σ.2.1 54 := (g54_τ3).trans G54
    have y14_7_τ3 : τ3.2.1 14 (τ3.1 7) = (σ.2.1 14) (σ.1 7) := by rw [g14_τ3, w7_τ3]
    have y36_15_τ3 : τ3.2.1 36 (τ3.1 15) = (σ.2.1 36) (σ.1 15) := by rw [g36_τ3, w15_τ3]
    have HT : J_ht (τ3.1 3) (τ3.2.1 2) (τ3.2.1 3) (τ3.2.1 5) (τ3.2.1 6) := q1_2
    have NL : J_nl (τ3.1 3) (τ3.2.1 2) (τ3.2.1 3) (τ3.2.1 4) := q1_14
    have MN : J_mn (τ3.1 3) (τ3.1 5) ((τ3.1 7) + 1) (τ3.2.1 4) := q1_3
    have VA : J_va (τ3.1 8) 1000 (τ3.2.1 18) (τ3.2.1 20) := q1_7
    have SC : J_sc (τ3.1 7) (τ3.1 9) (τ3.2.1 13) (τ3.2.1 14) (τ3.2.1 15) (τ3.2.1 16) (τ3.2.1 22) (τ3.2.1 19) := q1_9
    have MK : J_mk (τ3.1 11) (τ3.1 8) (τ3.1 9) (τ3.1 10) (τ3.2.1 25) := q1_8
    have FF : J_ff (τ3.1 5) (τ3.1 7) (τ3.2.1 9) (τ3.2.1 13) (τ3.2.1 14) (τ3.2.1 15) := q1_10
    have MT : ∀ s : Int, τ3.2.1 26 s ≤ (τ3.1 12) := q1_11
    have VS : J_vs (τ3.1 8) (τ3.1 5) (τ3.2.1 20) := q1_5
    have TX : J_vs (τ3.1 6) (τ3.1 5) (τ3.2.1 15) := q1_6
    have RKS : J_rks (τ3.1 5) (τ3.1 4) (τ3.2.1 10) (τ3.2.1 11) := q1_4
    have CJ : J_all (τ3.1 7) (τ3.1 6) (τ3.1 13) (τ3.1 14) (τ3.1 15) (τ3.2.1 13) (τ3.2.1 14) (τ3.2.1 15) (τ3.2.1 16) (τ3.2.1 10) (τ3.2.1 27) (τ3.2.1 28) (τ3.2.1 29) (τ3.2.1 30) (τ3.2.1 31) (τ3.2.1 32) (τ3.2.1 33) (τ3.2.1 34) (τ3.2.1 35) (τ3.2.1 36) (τ3.2.1 37) := q1_12
    have BP : J_bp (τ3.2.1 44) (τ3.2.1 45) := q1_13
    have CH : j_eq (σ.2.1 36 (σ.1 15)) (σ.2.1 37) (τ3.2.1 37) := by rw [show (j_eq (σ.2.1 36 (σ.1 15)) (σ.2.1 37) (τ3.2.1 37)) = (j_eq (σ.2.1 36 (σ.1 15)) (σ.2.1 37) (σ.2.1 37)) from by rw [g37_τ3]]; exact CH
    have A2 : ∀ j, 0 ≤ τ3.2.1 2 j ∧ τ3.2.1 2 j ≤ 65535 := fun j => hT.2 2 j
    have A3 : ∀ j, 0 ≤ τ3.2.1 3 j ∧ τ3.2.1 3 j ≤ 30000 := fun j => hT.2 3 j
    have A4 : ∀ j, (-1000) ≤ τ3.2.1 4 j ∧ τ3.2.1 4 j ≤ 1499 := fun j => hT.2 4 j
    have A5 : ∀ j, 0 ≤ τ3.2.1 5 j ∧ τ3.2.1 5 j ≤ 2500 := fun j => hT.2 5 j
    have A6 : ∀ j, 0 ≤ τ3.2.1 6 j ∧ τ3.2.1 6 j ≤ 2500 := fun j => hT.2 6 j
    have A8 : ∀ j, 0 ≤ τ3.2.1 8 j ∧ τ3.2.1 8 j ≤ 1 := fun j => hT.2 8 j
    have A9 : ∀ j, (-1) ≤ τ3.2.1 9 j ∧ τ3.2.1 9 j ≤ 1499 := fun j => hT.2 9 j
    have A10 : ∀ j, (-1) ≤ τ3.2.1 10 j ∧ τ3.2.1 10 j ≤ 99 := fun j => hT.2 10 j
    have A11 : ∀ j, 0 ≤ τ3.2.1 11 j ∧ τ3.2.1 11 j ≤ 999 := fun j => hT.2 11 j
    have A13 : ∀ j, 0 ≤ τ3.2.1 13 j ∧ τ3.2.1 13 j ≤ 4 := fun j => hT.2 13 j
    have A14 : ∀ j, 0 ≤ τ3.2.1 14 j ∧ τ3.2.1 14 j ≤ 30000 := fun j => hT.2 14 j
    have A15 : ∀ j, 0 ≤ τ3.2.1 15 j ∧ τ3.2.1 15 j ≤ 999 := fun j => hT.2 15 j
    have A16 : ∀ j, (-1) ≤ τ3.2.1 16 j ∧ τ3.2.1 16 j ≤ 1499 := fun j => hT.2 16 j
    have A18 : ∀ j, 0 ≤ τ3.2.1 18 j ∧ τ3.2.1 18 j ≤ 1 := fun j => hT.2 18 j
    have A19 : ∀ j, (-1) ≤ τ3.2.1 19 j ∧ τ3.2.1 19 j ≤ 1499 := fun j => hT.2 19 j
    have A20 : ∀ j, 0 ≤ τ3.2.1 20 j ∧ τ3.2.1 20 j ≤ 999 := fun j => hT.2 20 j
    have A22 : ∀ j, 0 ≤ τ3.2.1 22 j ∧ τ3.2.1 22 j ≤ 1499 := fun j => hT.2 22 j
    have A23 : ∀ j, 0 ≤ τ3.2.1 23 j ∧ τ3.2.1 23 j ≤ 999 := fun j => hT.2 23 j
    have A24 : ∀ j, 0 ≤ τ3.2.1 24 j ∧ τ3.2.1 24 j ≤ 999 := fun j => hT.2 24 j
    have A26 : ∀ j, (-2147483648) ≤ τ3.2.1 26 j ∧ τ3.2.1 26 j ≤ 2147483647 := fun j => hT.2 26 j
    have A27 : ∀ j, 0 ≤ τ3.2.1 27 j ∧ τ3.2.1 27 j ≤ 90000 := fun j => hT.2 27 j
    have A28 : ∀ j, 0 ≤ τ3.2.1 28 j ∧ τ3.2.1 28 j ≤ 60 := fun j => hT.2 28 j
    have A29 : ∀ j, 0 ≤ τ3.2.1 29 j ∧ τ3.2.1 29 j ≤ 1499 := fun j => hT.2 29 j
    have A30 : ∀ j, 0 ≤ τ3.2.1 30 j ∧ τ3.2.1 30 j ≤ 20000 := fun j => hT.2 30 j
    have A31 : ∀ j, 0 ≤ τ3.2.1 31 j ∧ τ3.2.1 31 j ≤ 20000 := fun j => hT.2 31 j
    have A32 : ∀ j, 0 ≤ τ3.2.1 32 j ∧ τ3.2.1 32 j ≤ 999999 := fun j => hT.2 32 j
    have A33 : ∀ j, 0 ≤ τ3.2.1 33 j ∧ τ3.2.1 33 j ≤ 20000 := fun j => hT.2 33 j
    have A34 : ∀ j, 0 ≤ τ3.2.1 34 j ∧ τ3.2.1 34 j ≤ 20000 := fun j => hT.2 34 j
    have A35 : ∀ j, 0 ≤ τ3.2.1 35 j ∧ τ3.2.1 35 j ≤ 1499 := fun j => hT.2 35 j
    have A36 : ∀ j, 0 ≤ τ3.2.1 36 j ∧ τ3.2.1 36 j ≤ 20000 := fun j => hT.2 36 j
    have A37 : ∀ j, 0 ≤ τ3.2.1 37 j ∧ τ3.2.1 37 j ≤ 19999 := fun j => hT.2 37 j
    have A44 : ∀ j, 0 ≤ τ3.2.1 44 j ∧ τ3.2.1 44 j ≤ 42000 := fun j => hT.2 44 j
    have A45 : ∀ j, 0 ≤ τ3.2.1 45 j ∧ τ3.2.1 45 j ≤ 1000 := fun j => hT.2 45 j
    have A49 : ∀ j, (-300) ≤ τ3.2.1 49 j ∧ τ3.2.1 49 j ≤ 67035 := fun j => hT.2 49 j
    have A51 : ∀ j, 0 ≤ τ3.2.1 51 j ∧ τ3.2.1 51 j ≤ 1499 := fun j => hT.2 51 j
    have A54 : ∀ j, 0 ≤ τ3.2.1 54 j ∧ τ3.2.1 54 j ≤ 999 := fun j => hT.2 54 j
    have v3 : 0 ≤ τ3.1 3 ∧ τ3.1 3 ≤ 2500 := hT.1 3
    have v4 : 0 ≤ τ3.1 4 ∧ τ3.1 4 ≤ 100 := hT.1 4
    have v5 : 0 ≤ τ3.1 5 ∧ τ3.1 5 ≤ 1000 := hT.1 5
    have v6 : 0 ≤ τ3.1 6 ∧ τ3.1 6 ≤ 30000 := hT.1 6
    have v7 : 0 ≤ τ3.1 7 ∧ τ3.1 7 ≤ 1500 := hT.1 7
    have v8 : 0 ≤ τ3.1 8 ∧ τ3.1 8 ≤ 1000 := hT.1 8
    have v9 : 0 ≤ τ3.1 9 ∧ τ3.1 9 ≤ 1500 := hT.1 9
    have v10 : 0 ≤ τ3.1 10 ∧ τ3.1 10 ≤ 1000 := hT.1 10
    have v11 : 0 ≤ τ3.1 11 ∧ τ3.1 11 ≤ 50 := hT.1 11
    have v12 : (-2147483648) ≤ τ3.1 12 ∧ τ3.1 12 ≤ 2147483647 := hT.1 12
    have v13 : 0 ≤ τ3.1 13 ∧ τ3.1 13 ≤ 90000 := hT.1 13
    have v14 : 0 ≤ τ3.1 14 ∧ τ3.1 14 ≤ 20000 := hT.1 14
    have v15 : 0 ≤ τ3.1 15 ∧ τ3.1 15 ≤ 20000 := hT.1 15
    have v16 : 0 ≤ τ3.1 16 ∧ τ3.1 16 ≤ 20000 := hT.1 16
    have v21 : 0 ≤ τ3.1 21 ∧ τ3.1 21 ≤ 20000 := hT.1 21
    have v22 : 0 ≤ τ3.1 22 ∧ τ3.1 22 ≤ 300 := hT.1 22
    have v23 : 0 ≤ τ3.1 23 ∧ τ3.1 23 ≤ 300 := hT.1 23
    have v24 : 0 ≤ τ3.1 24 ∧ τ3.1 24 ≤ 1499 := hT.1 24
    have v25 : 0 ≤ τ3.1 25 ∧ τ3.1 25 ≤ 3 := hT.1 25
    have v26 : 0 ≤ τ3.1 26 ∧ τ3.1 26 ≤ 5000010 := hT.1 26
    have v27 : 0 ≤ τ3.1 27 ∧ τ3.1 27 ≤ 1 := hT.1 27
    have v35 : 0 ≤ τ3.1 35 ∧ τ3.1 35 ≤ 7 := hT.1 35
    have v36 : 0 ≤ τ3.1 36 ∧ τ3.1 36 ≤ 1001 := hT.1 36
    have v37 : 0 ≤ τ3.1 37 ∧ τ3.1 37 ≤ 4 := hT.1 37
    have a14_7 : 0 ≤ τ3.2.1 14 (τ3.1 7) ∧ τ3.2.1 14 (τ3.1 7) ≤ 30000 := hT.2 14 _
    have a36_15 : 0 ≤ τ3.2.1 36 (τ3.1 15) ∧ τ3.2.1 36 (τ3.1 15) ≤ 20000 := hT.2 36 _
    have av13 : σ.1 13 ≤ τ3.1 13 := ag.1 13 (by decide)
    have av14 : σ.1 14 ≤ τ3.1 14 := ag.1 14 (by decide)
    exact ⟨hT, (show 0 ≤ x2 ∧ x2 ≤ 19 from by (first | assumption | omega | (simp only [st_s] <;> omega) | fail)), (show J_ht (τ3.1 3) (τ3.2.1 2) (τ3.2.1 3) (τ3.2.1 5) (τ3.2.1 6) from HT), (show J_mn (τ3.1 3) (τ3.1 5) ((τ3.1 7) + 1) (τ3.2.1 4) from MN), (show J_rks (τ3.1 5) (τ3.1 4) (τ3.2.1 10) (τ3.2.1 11) from RKS), (show J_vs (τ3.1 8) (τ3.1 5) (τ3.2.1 20) from VS), (show J_vs (τ3.1 6) (τ3.1 5) (τ3.2.1 15) from TX), (show J_va (τ3.1 8) 1000 (τ3.2.1 18) (τ3.2.1 20) from VA), (show J_mk (τ3.1 11) (τ3.1 8) (τ3.1 9) (τ3.1 10) (τ3.2.1 25) from MK), (show J_sc (τ3.1 7) (τ3.1 9) (τ3.2.1 13) (τ3.2.1 14) (τ3.2.1 15) (τ3.2.1 16) (τ3.2.1 22) (τ3.2.1 19) from SC), (show J_ff (τ3.1 5) (τ3.1 7) (τ3.2.1 9) (τ3.2.1 13) (τ3.2.1 14) (τ3.2.1 15) from FF), (show ∀ s : Int, τ3.2.1 26 s ≤ (τ3.1 12) from MT), (show J_all (τ3.1 7) (τ3.1 6) (τ3.1 13) (τ3.1 14) (τ3.1 15) (τ3.2.1 13) (τ3.2.1 14) (τ3.2.1 15) (τ3.2.1 16) (τ3.2.1 10) (τ3.2.1 27) (τ3.2.1 28) (τ3.2.1 29) (τ3.2.1 30) (τ3.2.1 31) (τ3.2.1 32) (τ3.2.1 33) (τ3.2.1 34) (τ3.2.1 35) (τ3.2.1 36) (τ3.2.1 37) from CJ), (show J_bp (τ3.2.1 44) (τ3.2.1 45) from BP), (show J_nl (τ3.1 3) (τ3.2.1 2) (τ3.2.1 3) (τ3.2.1 4) from NL), (show x2 = 0 → J_rs (τ3.1 35) (τ3.1 7) (τ3.1 6) (τ3.1 36) (τ3.1 37) (τ3.1 5) (τ3.1 8) (τ3.2.1 14) from by (first | (intro z; exfalso; omega) | exact q1_15 | exact q4_15 | exact q7_15 | (intro z; have w := q15_2 z; unfold J_rs; rw [G14, W7]; omega) | (intro z; unfold J_rs; rw [G14, W7]; omega) | (first | (intro z; exfalso; omega) | (intro z; unfold J_rs; omega) | (intro z; unfold J_rs; rw [G14, W7]; omega)) | fail)), (show x2 = 0 → 5 ≤ (τ3.1 35) → 1 ≤ (τ3.1 36) → 0 ≤ τ3.2.1 10 (τ3.2.1 15 (τ3.2.1 14 (τ3.1 7))) from by (first | (intro z; exfalso; omega) | exact q1_16 | exact q4_16 | exact q7_16 | (intro z y y2; exfalso; omega) | (intro z y; have w := q15_2 z; exfalso; omega) | (first | (intro z; exfalso; omega) | (intro z y; exfalso; omega) | exact fun _ => uc | (intro z y y2; exact uc (by omega) (by omega)) | (intro z y y2; exfalso; omega) | (intro z y y2; rw [G10, G14, G15, W7]; exact uc (by omega) (by omega))) | fail)), (show x2 = 0 → (τ3.1 35) = 4 → j_in (τ3.1 36) 1000 (τ3.2.1 54) from by (first | (intro z; exfalso; omega) | exact q1_17 | exact q4_17 | exact q7_17 | (intro z y; rw [show τ17.1 36 = 0 from (q15_2 z).1]; exact j_in0 _ _) | (first | (intro z; exfalso; omega) | (intro z y; exfalso; omega) | exact fun _ => dj) | fail)), (show x2 = 0 → 5 ≤ (τ3.1 35) → J_ip (τ3.1 7) (τ3.1 6) (τ3.1 37) (τ3.2.1 14) (τ3.2.1 15) (τ3.2.1 16) (τ3.2.1 19) from by (first | (intro z; exfalso; omega) | exact q1_18 | exact q4_18 | exact q7_18 | (intro z y; have w := q15_2 z; exfalso; omega) | (intro z y; exact J_ip0 (by rw [W6, G14, W7]; omega)) | (first | (intro z; exfalso; omega) | (intro z y; exfalso; omega) | exact fun _ => ipx | (intro z y; exact ipx (by omega)) | (intro z y; rw [W7, W6, W37, G14, G15, G16, G19]; exact ipx (by omega))) | fail)), (show x2 = 0 → ((τ3.1 35) ≤ 5 → (τ3.1 13) ≤ 60 * (τ3.1 7)) ∧ (τ3.1 13) ≤ 60 * (τ3.1 7) + 60 from by (first | (intro z; exfalso; omega) | exact q1_19 | exact q4_19 | exact q7_19 | (intro z; omega) | fail)), (show x2 = 0 → 6 ≤ (τ3.1 35) → (τ3.1 24) = (τ3.1 7) ∧ J_f (τ3.1 7) (τ3.1 13) (τ3.1 14) (τ3.2.1 13) (τ3.2.1 14) (τ3.2.1 15) (τ3.2.1 16) (τ3.2.1 27) (τ3.2.1 28) (τ3.2.1 29) (τ3.2.1 30) (τ3.2.1 31) (τ3.2.1 32) from by (first | (intro z; exfalso; omega) | exact q1_20 | exact q4_20 | exact q7_20 | (intro z y; have w := q15_2 z; exfalso; omega) | (intro z y; exfalso; omega) | (first | (intro z; exfalso; omega) | (intro z y; exfalso; omega) | exact fun _ => frx | (intro z y; exact frx (by omega)) | (intro z y; have w := frx (by omega); rw [W7, W13, W14, W24, G13, G14, G15, G16, G27, G28, G29, G30, G31, G32]; exact w)) | fail)), (show x2 = 0 → 6 ≤ (τ3.1 35) → J_sp (τ3.1 24) (τ3.1 21) (τ3.1 23) (τ3.1 22) (τ3.2.1 49) (τ3.2.1 51) ∧ ((τ3.1 16) + (τ3.1 21) ≤ 20000) ∧ (¬ (τ3.1 27) = 0 → 1 ≤ (τ3.1 21) ∧ 0 ≤ τ3.2.1 49 ((τ3.1 21) - 1) ∧ τ3.2.1 49 ((τ3.1 21) - 1) < 65536) ∧ ((τ3.1 26) ≤ 1000000) ∧ ((τ3.1 25) ≤ 2 → (τ3.1 27) = 0) from by (first | (intro z; exfalso; omega) | exact q1_21 | exact q4_21 | exact q7_21 | (intro z y; have w := q15_2 z; exfalso; omega) | (intro z y; exfalso; omega) | (first | (intro z; exfalso; omega) | (intro z y; exfalso; omega) | exact fun _ => spx | (intro z y; exact spx (by omega))) | fail)), (show x2 = 0 → (τ3.1 15) ≤ (τ3.1 16) ∧ τ3.2.1 36 (τ3.1 15) ≤ (τ3.1 16) from by (first | (intro z; exfalso; omega) | exact q1_22 | exact q4_22 | exact q7_22 | (intro z; first | exact sux | omega) | fail)), (show x2 = 0 → (τ3.1 9) ≤ (τ3.1 7) from by (first | (intro z; exfalso; omega) | exact q1_23 | exact q4_23 | exact q7_23 | (intro z; omega) | fail)), (show j_rr ((σ.1 5)) (σ.2.1 10) (τ3.2.1 10) from by (first | exact j_rr0 _ _ | exact q1_24 | exact q4_24 | exact q7_24 | (rw [G10]; exact j_rr0 _ _) | fail)), (show j_eq (σ.2.1 36 (σ.1 15)) (σ.2.1 37) (τ3.2.1 37) from CH), (show (τ3.1 12) ≤ (σ.1 12) + 1 from by (first | assumption | omega | (simp only [st_s] <;> omega) | fail)), (show c_Y σ τ3 from by (first | exact c_Y0 _ | exact c_Y_g W4 G11 G20 G22 G25 | exact q1_27 | exact q4_27 | exact q7_27 | exact c_Y_g (by omega) (by rw [g11_τ4]) (by rw [g20_τ4]) (by rw [g22_τ4]) (by rw [g25_τ4]) | exact c_Y_g (by omega) (by rw [g11_τ13]) (by rw [g20_τ13]) (by rw [g22_τ13]) (by rw [g25_τ13]) | exact c_Y_g (by omega) (by rw [g11_τ17]) (by rw [g20_τ17]) (by rw [g22_τ17]) (by rw [g25_τ17]) | fail)), ag⟩
  ·
    refine h109 _ _ ?_
    refine ⟨fun c10 => ?_, fun c10 => ?_⟩
    ·
      exact ⟨hT, (show 0 ≤ 4 ∧ 4 ≤ 19 from by (first | assumption | omega | (simp only [st_s] <;> omega) | fail)), (show J_ht (σ.1 3) (σ.2.1 2) (σ.2.1 3) (σ.2.1 5) (σ.2.1 6) from HT), (show J_mn (σ.1 3) (σ.1 5) ((σ.1 7) + 1) (σ.2.1 4) from MN), (show J_rks (σ.1 5) (σ.1 4) (σ.2.1 10) (σ.2.1 11) from RKS), (show J_vs (σ.1 8) (σ.1 5) (σ.2.1 20) from VS), (show J_vs (σ.1 6) (σ.1 5) (σ.2.1 15) from TX), (show J_va (σ.1 8) 1000 (σ.2.1 18) (σ.2.1 20) from VA), (show J_mk (σ.1 11) (σ.1 8) (σ.1 9) (σ.1 10) (σ.2.1 25) from MK), (show J_sc (σ.1 7) (σ.1 9) (σ.2.1 13) (σ.2.1 14) (σ.2.1 15) (σ.2.1 16) (σ.2.1 22) (σ.2.1 19) from SC), (show J_ff (σ.1 5) (σ.1 7) (σ.2.1 9) (σ.2.1 13) (σ.2.1 14) (σ.2.1 15) from FF), (show ∀ s : Int, σ.2.1 26 s ≤ (σ.1 12) from MT), (show J_all (σ.1 7) (σ.1 6) (σ.1 13) (σ.1 14) (σ.1 15) (σ.2.1 13) (σ.2.1 14) (σ.2.1 15) (σ.2.1 16) (σ.2.1 10) (σ.2.1 27) (σ.2.1 28) (σ.2.1 29) (σ.2.1 30) (σ.2.1 31) (σ.2.1 32) (σ.2.1 33) (σ.2.1 34) (σ.2.1 35) (σ.2.1 36) (σ.2.1 37) from CJ), (show J_bp (σ.2.1 44) (σ.2.1 45) from BP), (show J_nl (σ.1 3) (σ.2.1 2) (σ.2.1 3) (σ.2.1 4) from NL), (show 4 = 0 → J_rs (σ.1 35) (σ.1 7) (σ.1 6) (σ.1 36) (σ.1 37) (σ.1 5) (σ.1 8) (σ.2.1 14) from by (first | (intro z; exfalso; omega) | exact q1_15 | exact q4_15 | exact q7_15 | (intro z; have w := q15_2 z; unfold J_rs; rw [G14, W7]; omega) | (intro z; unfold J_rs; rw [G14, W7]; omega) | (first | (intro z; exfalso; omega) | (intro z; unfold J_rs; omega) | (intro z; unfold J_rs; rw [G14, W7]; omega)) | fail)), (show 4 = 0 → 5 ≤ (σ.1 35) → 1 ≤ (σ.1 36) → 0 ≤ σ.2.1 10 (σ.2.1 15 (σ.2.1 14 (σ.1 7))) from by (first | (intro z; exfalso; omega) | exact q1_16 | exact q4_16 | exact q7_16 | (intro z y y2; exfalso; omega) | (intro z y; have w := q15_2 z; exfalso; omega) | (first | (intro z; exfalso; omega) | (intro z y; exfalso; omega) | exact fun _ => uc | (intro z y y2; exact uc (by omega) (by omega)) | (intro z y y2; exfalso; omega) | (intro z y y2; rw [G10, G14, G15, W7]; exact uc (by omega) (by omega))) | fail)), (show 4 = 0 → (σ.1 35) = 4 → j_in (σ.1 36) 1000 (σ.2.1 54) from by (first | (intro z; exfalso; omega) | exact q1_17 | exact q4_17 | exact q7_17 | (intro z y; rw [show τ17.1 36 = 0 from (q15_2 z).1]; exact j_in0 _ _) | (first | (intro z; exfalso; omega) | (intro z y; exfalso; omega) | exact fun _ => dj) | fail)), (show 4 = 0 → 5 ≤ (σ.1 35) → J_ip (σ.1 7) (σ.1 6) (σ.1 37) (σ.2.1 14) (σ.2.1 15) (σ.2.1 16) (σ.2.1 19) from by (first | (intro z; exfalso; omega) | exact q1_18 | exact q4_18 | exact q7_18 | (intro z y; have w := q15_2 z; exfalso; omega) | (intro z y; exact J_ip0 (by rw [W6, G14, W7]; omega)) | (first | (intro z; exfalso; omega) | (intro z y; exfalso; omega) | exact fun _ => ipx | (intro z y; exact ipx (by omega)) | (intro z y; rw [W7, W6, W37, G14, G15, G16, G19]; exact ipx (by omega))) | fail)), (show 4 = 0 → ((σ.1 35) ≤ 5 → (σ.1 13) ≤ 60 * (σ.1 7)) ∧ (σ.1 13) ≤ 60 * (σ.1 7) + 60 from by (first | (intro z; exfalso; omega) | exact q1_19 | exact q4_19 | exact q7_19 | (intro z; omega) | fail)), (show 4 = 0 → 6 ≤ (σ.1 35) → (σ.1 24) = (σ.1 7) ∧ J_f (σ.1 7) (σ.1 13) (σ.1 14) (σ.2.1 13) (σ.2.1 14) (σ.2.1 15) (σ.2.1 16) (σ.2.1 27) (σ.2.1 28) (σ.2.1 29) (σ.2.1 30) (σ.2.1 31) (σ.2.1 32) from by (first | (intro z; exfalso; omega) | exact q1_20 | exact q4_20 | exact q7_20 | (intro z y; have w := q15_2 z; exfalso; omega) | (intro z y; exfalso; omega) | (first | (intro z; exfalso; omega) | (intro z y; exfalso; omega) | exact fun _ => frx | (intro z y; exact frx (by omega)) | (intro z y; have w := frx (by omega); rw [W7, W13, W14, W24, G13, G14, G15, G16, G27, G28, G29, G30, G31, G32]; exact w)) | fail)), (show 4 = 0 → 6 ≤ (σ.1 35) → J_sp (σ.1 24) (σ.1 21) (σ.1 23) (σ.1 22) (σ.2.1 49) (σ.2.1 51) ∧ ((σ.1 16) + (σ.1 21) ≤ 20000) ∧ (¬ (σ.1 27) = 0 → 1 ≤ (σ.1 21) ∧ 0 ≤ σ.2.1 49 ((σ.1 21) - 1) ∧ σ.2.1 49 ((σ.1 21) - 1) < 65536) ∧ ((σ.1 26) ≤ 1000000) ∧ ((σ.1 25) ≤ 2 → (σ.1 27) = 0) from by (first | (intro z; exfalso; omega) | exact q1_21 | exact q4_21 | exact q7_21 | (intro z y; have w := q15_2 z; exfalso; omega) | (intro z y; exfalso; omega) | (first | (intro z; exfalso; omega) | (intro z y; exfalso; omega) | exact fun _ => spx | (intro z y; exact spx (by omega))) | fail)), (show 4 = 0 → (σ.1 15) ≤ (σ.1 16) ∧ σ.2.1 36 (σ.1 15) ≤ (σ.1 16) from by (first | (intro z; exfalso; omega) | exact q1_22 | exact q4_22 | exact q7_22 | (intro z; first | exact sux | omega) | fail)), (show 4 = 0 → (σ.1 9) ≤ (σ.1 7) from by (first | (intro z; exfalso; omega) | exact q1_23 | exact q4_23 | exact q7_23 | (intro z; omega) | fail)), (show j_rr ((σ.1 5)) (σ.2.1 10) (σ.2.1 10) from by (first | exact j_rr0 _ _ | exact q1_24 | exact q4_24 | exact q7_24 | (rw [G10]; exact j_rr0 _ _) | fail)), (show j_eq (σ.2.1 36 (σ.1 15)) (σ.2.1 37) (σ.2.1 37) from CH), (show (σ.1 12) ≤ (σ.1 12) + 1 from by (first | assumption | omega | (simp only [st_s] <;> omega) | fail)), (show c_Y σ σ from by (first | exact c_Y0 _ | exact c_Y_g W4 G11 G20 G22 G25 | exact q1_27 | exact q4_27 | exact q7_27 | exact c_Y_g (by omega) (by rw [g11_τ4]) (by rw [g20_τ4]) (by rw [g22_τ4]) (by rw [g25_τ4]) | exact c_Y_g (by omega) (by rw [g11_τ13]) (by rw [g20_τ13]) (by rw [g22_τ13]) (by rw [g25_τ13]) | exact c_Y_g (by omega) (by rw [g11_τ17]) (by rw [g20_τ17]) (by rw [g22_τ17]) (by rw [g25_τ17]) | fail)), ag⟩
    ·
      refine ⟨_, K2_X7_statement hT, ?_⟩
      intro x12 τ13 r_x12 hn_τ13 hf_τ13 hq
      obtain ⟨hT, q11_1, q11_2, q11_3⟩ := hq
      replace q11_1 : x12 = 0 := q11_1
      replace q11_2 : (τ13.1 36) = 0 := q11_2
      replace q11_3 : (τ13.1 35) = 5 := q11_3
      replace ag : c_ag σ τ13 := ag_r ag hf_τ13 rfl rfl
      have w3_τ13 : τ13.1 3 = σ.1 3 := hf_τ13.1 3 (by decide)
      have w4_τ13 : τ13.1 4 = σ.1 4 := hf_τ13.1 4 (by decide)
      have w5_τ13 : τ13.1 5 = σ.1 5 := hf_τ13.1 5 (by decide)
      have w6_τ13 : τ13.1 6 = σ.1 6 := hf_τ13.1 6 (by decide)
      have w7_τ13 : τ13.1 7 = σ.1 7 := hf_τ13.1 7 (by decide)
      have w8_τ13 : τ13.1 8 = σ.1 8 := hf_τ13.1 8 (by decide)
      have w9_τ13 : τ13.1 9 = σ.1 9 := hf_τ13.1 9 (by decide)
      have w10_τ13 : τ13.1 10 = σ.1 10 := hf_τ13.1 10 (by decide)
      have w11_τ13 : τ13.1 11 = σ.1 11 := hf_τ13.1 11 (by decide)
      have w12_τ13 : τ13.1 12 = σ.1 12 := hf_τ13.1 12 (by decide)
      have w13_τ13 : τ13.1 13 = σ.1 13 := hf_τ13.1 13 (by decide)
      have w14_τ13 : τ13.1 14 = σ.1 14 := hf_τ13.1 14 (by decide)
      have w15_τ13 : τ13.1 15 = σ.1 15 := hf_τ13.1 15 (by decide)
      have w16_τ13 : τ13.1 16 = σ.1 16 := hf_τ13.1 16 (by decide)
      have w21_τ13 : τ13.1 21 = σ.1 21 := hf_τ13.1 21 (by decide)
      have w22_τ13 : τ13.1 22 = σ.1 22 := hf_τ13.1 22 (by decide)
      have w23_τ13 : τ13.1 23 = σ.1 23 := hf_τ13.1 23 (by decide)
      have w24_τ13 : τ13.1 24 = σ.1 24 := hf_τ13.1 24 (by decide)
      have w25_τ13 : τ13.1 25 = σ.1 25 := hf_τ13.1 25 (by decide)
      have w26_τ13 : τ13.1 26 = σ.1 26 := hf_τ13.1 26 (by decide)
      have w27_τ13 : τ13.1 27 = σ.1 27 := hf_τ13.1 27 (by decide)
      have g2_τ13 : τ13.2.1 2 = σ.2.1 2 := hf_τ13.2.1 2 (by decide)
      have g3_τ13 : τ13.2.1 3 = σ.2.1 3 := hf_τ13.2.1 3 (by decide)
      have g4_τ13 : τ13.2.1 4 = σ.2.1 4 := hf_τ13.2.1 4 (by decide)
      have g5_τ13 : τ13.2.1 5 = σ.2.1 5 := hf_τ13.2.1 5 (by decide)
      have g6_τ13 : τ13.2.1 6 = σ.2.1 6 := hf_τ13.2.1 6 (by decide)
      have g8_τ13 : τ13.2.1 8 = σ.2.1 8 := hf_τ13.2.1 8 (by decide)
      have g9_τ13 : τ13.2.1 9 = σ.2.1 9 := hf_τ13.2.1 9 (by decide)
      have g10_τ13 : τ13.2.1 10 = σ.2.1 10 := hf_τ13.2.1 10 (by decide)
      have g11_τ13 : τ13.2.1 11 = σ.2.1 11 := hf_τ13.2.1 11 (by decide)
      have g13_τ13 : τ13.2.1 13 = σ.2.1 13 := hf_τ13.2.1 13 (by decide)
      have g14_τ13 : τ13.2.1 14 = σ.2.1 14 := hf_τ13.2.1 14 (by decide)
      have g15_τ13 : τ13.2.1 15 = σ.2.1 15 := hf_τ13.2.1 15 (by decide)
      have g16_τ13 : τ13.2.1 16 = σ.2.1 16 := hf_τ13.2.1 16 (by decide)
      have g18_τ13 : τ13.2.1 18 = σ.2.1 18 := hf_τ13.2.1 18 (by decide)
      have g19_τ13 : τ13.2.1 19 = σ.2.1 19 := hf_τ13.2.1 19 (by decide)
      have g20_τ13 : τ13.2.1 20 = σ.2.1 20 := hf_τ13.2.1 20 (by decide)
      have g22_τ13 : τ13.2.1 22 = σ.2.1 22 := hf_τ13.2.1 22 (by decide)
      have g23_τ13 : τ13.2.1 23 = σ.2.1 23 := hf_τ13.2.1 23 (by decide)
      have g24_τ13 : τ13.2.1 24 = σ.2.1 24 := hf_τ13.2.1 24 (by decide)
      have g25_τ13 : τ13.2.1 25 = σ.2.1 25 := hf_τ13.2.1 25 (by decide)
      have g26_τ13 : τ13.2.1 26 = σ.2.1 26 := hf_τ13.2.1 26 (by decide)
      have g27_τ13 : τ13.2.1 27 = σ.2.1 27 := hf_τ13.2.1 27 (by decide)
      have g28_τ13 : τ13.2.1 28 = σ.2.1 28 := hf_τ13.2.1 28 (by decide)
      have g29_τ13 : τ13.2.1 29 = σ.2.1 29 := hf_τ13.2.1 29 (by decide)
      have g30_τ13 : τ13.2.1 30 = σ.2.1 30 := hf_τ13.2.1 30 (by decide)
      have g31_τ13 : τ13.2.1 31 = σ.2.1 31 := hf_τ13.2.1 31 (by decide)
      have g32_τ13 : τ13.2.1 32 = σ.2.1 32 := hf_τ13.2.1 32 (by decide)
      have g33_τ13 : τ13.2.1 33 = σ.2.1 33 := hf_τ13.2.1 33 (by decide)
      have g34_τ13 : τ13.2.1 34 = σ.2.1 34 := hf_τ13.2.1 34 (by decide)
      have g35_τ13 : τ13.2.1 35 = σ.2.1 35 := hf_τ13.2.1 35 (by decide)
      have g36_τ13 : τ13.2.1 36 = σ.2.1 36 := hf_τ13.2.1 36 (by decide)
      have g37_τ13 : τ13.2.1 37 = σ.2.1 37 := hf_τ13.2.1 37 (by decide)
      have g44_τ13 : τ13.2.1 44 = σ.2.1 44 := hf_τ13.2.1 44 (by decide)
      have g45_τ13 : τ13.2.1 45 = σ.2.1 45 := hf_τ13.2.1 45 (by decide)
      have g49_τ13 : τ13.2.1 49 = σ.2.1 49 := hf_τ13.2.1 49 (by decide)
      have g51_τ13 : τ13.2.1 51 = σ.2.1 51 := hf_τ13.2.1 51 (by decide)
      have g54_τ13 : τ13.2.1 54 = σ.2.1 54 := hf_τ13.2.1 54 (by decide)
      have W3 : τ13.1 3 = σ.1 3 := by omega
      have W4 : τ13.1 4 = σ.1 4 := by omega
      have W5 : τ13.1 5 = σ.1 5 := by omega
      have W6 : τ13.1 6 = σ.1 6 := by omega
      have W7 : τ13.1 7 = σ.1 7 := by omega
      have W15 : τ13.1 15 = σ.1 15 := by omega
      have W16 : τ13.1 16 = σ.1 16 := by omega
      have G2 : τ13.2.1 2 = σ.2.1 2 := (g2_τ13).trans G2
      have G3 : τ13.2.1 3 = σ.2.1 3 := (g3_τ13).trans G3
      have G4 : τ13.2.1 4 = σ.2.1 4 := (g4_τ13).trans G4
      have G5 : τ13.2.1 5 = σ.2.1 5 := (g5_τ13).trans G5
      have G6 : τ13.2.1 6 = σ.2.1 6 := (g6_τ13).trans G6
      have G8 : τ13.2.1 8 = σ.2.1 8 := (g8_τ13).trans G8
      have G9 : τ13.2.1 9 = σ.2.1 9 := (g9_τ13).trans G9
      have G10 : τ13.2.1 10 = σ.2.1 10 := (g10_τ13).trans G10
      have G11 : τ13.2.1 11 = σ.2.1 11 := (g11_τ13).trans G11
      have G13 : τ13.2.1 13 = σ.2.1 13 := (g13_τ13).trans G13
      have G14 : τ13.2.1 14 = σ.2.1 14 := (g14_τ13).trans G14
      have G15 : τ13.2.1 15 = σ.2.1 15 := (g15_τ13).trans G15
      have G16 : τ13.2.1 16 = σ.2.1 16 := (g16_τ13).trans G16
      have G20 : τ13.2.1 20 = σ.2.1 20 := (g20_τ13).trans G20
      have G22 : τ13.2.1 22 = σ.2.1 22 := (g22_τ13).trans G22
      have G23 : τ13.2.1 23 = σ.2.1 23 := (g23_τ13).trans G23
      have G24 : τ13.2.1 24 = σ.2.1 24 := (g24_τ13).trans G24
      have G33 : τ13.2.1 33 = σ.2.1 33 := (g33_τ13).trans G33
      have G34 : τ13.2.1 34 = σ.2.1 34 := (g34_τ13).trans G34
      have G35 : τ13.2.1 35 = σ.2.1 35 := (g35_τ13).trans G35
      have G36 : τ13.2.1 36 = σ.2.1 36 := (g36_τ13).trans G36
      have G37 : τ13.2.1 37 = σ.2.1 37 := (g37_τ13).trans G37
      have G44 : τ13.2.1 44 = σ.2.1 44 := (g44_τ13).trans G44
      have G45 : τ13.2.1 45 = σ.2.1 45 := (g45_τ13).trans G45
      have G49 : τ13.2.1 49 = σ.2.1 49 := (g49_τ13).trans G49
      have G51 : τ13.2.1 51 = σ.2.1 51 := (g51_τ13).trans G51
      have G54 : τ13.2.1 54 = σ.2.1 54 := (g54_τ13).trans G54
      have y14_7_τ13 : τ13.2.1 14 (τ13.1 7) = (σ.2.1 14) (σ.1 7) := by rw [g14_τ13, w7_τ13]
      have y36_15_τ13 : τ13.2.1 36 (τ13.1 15) = (σ.2.1 36) (σ.1 15) := by rw [g36_τ13, w15_τ13]
      have HT : J_ht (τ13.1 3) (τ13.2.1 2) (τ13.2.1 3) (τ13.2.1 5) (τ13.2.1 6) := by rw [show (J_ht (τ13.1 3) (τ13.2.1 2) (τ13.2.1 3) (τ13.2.1 5) (τ13.2.1 6)) = (J_ht (σ.1 3) (σ.2.1 2) (σ.2.1 3) (σ.2.1 5) (σ.2.1 6)) from by rw [w3_τ13, g2_τ13, g3_τ13, g5_τ13, g6_τ13]]; exact HT
      have NL : J_nl (τ13.1 3) (τ13.2.1 2) (τ13.2.1 3) (τ13.2.1 4) := by rw [show (J_nl (τ13.1 3) (τ13.2.1 2) (τ13.2.1 3) (τ13.2.1 4)) = (J_nl (σ.1 3) (σ.2.1 2) (σ.2.1 3) (σ.2.1 4)) from by rw [w3_τ13, g2_τ13, g3_τ13, g4_τ13]]; exact NL
      have MN : J_mn (τ13.1 3) (τ13.1 5) ((τ13.1 7) + 1) (τ13.2.1 4) := by rw [show (J_mn (τ13.1 3) (τ13.1 5) ((τ13.1 7) + 1) (τ13.2.1 4)) = (J_mn (σ.1 3) (σ.1 5) ((σ.1 7) + 1) (σ.2.1 4)) from by rw [w3_τ13, w5_τ13, w7_τ13, g4_τ13]]; exact MN
      have VA : J_va (τ13.1 8) 1000 (τ13.2.1 18) (τ13.2.1 20) := by rw [show (J_va (τ13.1 8) 1000 (τ13.2.1 18) (τ13.2.1 20)) = (J_va (σ.1 8) 1000 (σ.2.1 18) (σ.2.1 20)) from by rw [w8_τ13, g18_τ13, g20_τ13]]; exact VA
      have SC : J_sc (τ13.1 7) (τ13.1 9) (τ13.2.1 13) (τ13.2.1 14) (τ13.2.1 15) (τ13.2.1 16) (τ13.2.1 22) (τ13.2.1 19) := by rw [show (J_sc (τ13.1 7) (τ13.1 9) (τ13.2.1 13) (τ13.2.1 14) (τ13.2.1 15) (τ13.2.1 16) (τ13.2.1 22) (τ13.2.1 19)) = (J_sc (σ.1 7) (σ.1 9) (σ.2.1 13) (σ.2.1 14) (σ.2.1 15) (σ.2.1 16) (σ.2.1 22) (σ.2.1 19)) from by rw [w7_τ13, w9_τ13, g13_τ13, g14_τ13, g15_τ13, g16_τ13, g19_τ13, g22_τ13]]; exact SC
      have MK : J_mk (τ13.1 11) (τ13.1 8) (τ13.1 9) (τ13.1 10) (τ13.2.1 25) := by rw [show (J_mk (τ13.1 11) (τ13.1 8) (τ13.1 9) (τ13.1 10) (τ13.2.1 25)) = (J_mk (σ.1 11) (σ.1 8) (σ.1 9) (σ.1 10) (σ.2.1 25)) from by rw [w8_τ13, w9_τ13, w10_τ13, w11_τ13, g25_τ13]]; exact MK
      have FF : J_ff (τ13.1 5) (τ13.1 7) (τ13.2.1 9) (τ13.2.1 13) (τ13.2.1 14) (τ13.2.1 15) := by rw [show (J_ff (τ13.1 5) (τ13.1 7) (τ13.2.1 9) (τ13.2.1 13) (τ13.2.1 14) (τ13.2.1 15)) = (J_ff (σ.1 5) (σ.1 7) (σ.2.1 9) (σ.2.1 13) (σ.2.1 14) (σ.2.1 15)) from by rw [w5_τ13, w7_τ13, g9_τ13, g13_τ13, g14_τ13, g15_τ13]]; exact FF
      have MT : ∀ s : Int, τ13.2.1 26 s ≤ (τ13.1 12) := by rw [show (∀ s : Int, τ13.2.1 26 s ≤ (τ13.1 12)) = (∀ s : Int, σ.2.1 26 s ≤ (σ.1 12)) from by rw [w12_τ13, g26_τ13]]; exact MT
      have VS : J_vs (τ13.1 8) (τ13.1 5) (τ13.2.1 20) := by rw [show (J_vs (τ13.1 8) (τ13.1 5) (τ13.2.1 20)) = (J_vs (σ.1 8) (σ.1 5) (σ.2.1 20)) from by rw [w5_τ13, w8_τ13, g20_τ13]]; exact VS
      have TX : J_vs (τ13.1 6) (τ13.1 5) (τ13.2.1 15) := by rw [show (J_vs (τ13.1 6) (τ13.1 5) (τ13.2.1 15)) = (J_vs (σ.1 6) (σ.1 5) (σ.2.1 15)) from by rw [w5_τ13, w6_τ13, g15_τ13]]; exact TX
      have RKS : J_rks (τ13.1 5) (τ13.1 4) (τ13.2.1 10) (τ13.2.1 11) := by rw [show (J_rks (τ13.1 5) (τ13.1 4) (τ13.2.1 10) (τ13.2.1 11)) = (J_rks (σ.1 5) (σ.1 4) (σ.2.1 10) (σ.2.1 11)) from by rw [w4_τ13, w5_τ13, g10_τ13, g11_τ13]]; exact RKS
      have CJ : J_all (τ13.1 7) (τ13.1 6) (τ13.1 13) (τ13.1 14) (τ13.1 15) (τ13.2.1 13) (τ13.2.1 14) (τ13.2.1 15) (τ13.2.1 16) (τ13.2.1 10) (τ13.2.1 27) (τ13.2.1 28) (τ13.2.1 29) (τ13.2.1 30) (τ13.2.1 31) (τ13.2.1 32) (τ13.2.1 33) (τ13.2.1 34) (τ13.2.1 35) (τ13.2.1 36) (τ13.2.1 37) := by rw [show (J_all (τ13.1 7) (τ13.1 6) (τ13.1 13) (τ13.1 14) (τ13.1 15) (τ13.2.1 13) (τ13.2.1 14) (τ13.2.1 15) (τ13.2.1 16) (τ13.2.1 10) (τ13.2.1 27) (τ13.2.1 28) (τ13.2.1 29) (τ13.2.1 30) (τ13.2.1 31) (τ13.2.1 32) (τ13.2.1 33) (τ13.2.1 34) (τ13.2.1 35) (τ13.2.1 36) (τ13.2.1 37)) = (J_all (σ.1 7) (σ.1 6) (σ.1 13) (σ.1 14) (σ.1 15) (σ.2.1 13) (σ.2.1 14) (σ.2.1 15) (σ.2.1 16) (σ.2.1 10) (σ.2.1 27) (σ.2.1 28) (σ.2.1 29) (σ.2.1 30) (σ.2.1 31) (σ.2.1 32) (σ.2.1 33) (σ.2.1 34) (σ.2.1 35) (σ.2.1 36) (σ.2.1 37)) from by rw [w6_τ13, w7_τ13, w13_τ13, w14_τ13, w15_τ13, g10_τ13, g13_τ13, g14_τ13, g15_τ13, g16_τ13, g27_τ13, g28_τ13, g29_τ13, g30_τ13, g31_τ13, g32_τ13, g33_τ13, g34_τ13, g35_τ13, g36_τ13, g37_τ13]]; exact CJ
      have BP : J_bp (τ13.2.1 44) (τ13.2.1 45) := by rw [show (J_bp (τ13.2.1 44) (τ13.2.1 45)) = (J_bp (σ.2.1 44) (σ.2.1 45)) from by rw [g44_τ13, g45_τ13]]; exact BP
      have CH : j_eq (σ.2.1 36 (σ.1 15)) (σ.2.1 37) (τ13.2.1 37) := by rw [show (j_eq (σ.2.1 36 (σ.1 15)) (σ.2.1 37) (τ13.2.1 37)) = (j_eq (σ.2.1 36 (σ.1 15)) (σ.2.1 37) (σ.2.1 37)) from by rw [g37_τ13]]; exact CH
      have A2 : ∀ j, 0 ≤ τ13.2.1 2 j ∧ τ13.2.1 2 j ≤ 65535 := fun j => hT.2 2 j
      have A3 : ∀ j, 0 ≤ τ13.2.1 3 j ∧ τ13.2.1 3 j ≤ 30000 := fun j => hT.2 3 j
      have A4 : ∀ j, (-1000) ≤ τ13.2.1 4 j ∧ τ13.2.1 4 j ≤ 1499 := fun j => hT.2 4 j
      have A5 : ∀ j, 0 ≤ τ13.2.1 5 j ∧ τ13.2.1 5 j ≤ 2500 := fun j => hT.2 5 j
      have A6 : ∀ j, 0 ≤ τ13.2.1 6 j ∧ τ13.2.1 6 j ≤ 2500 := fun j => hT.2 6 j
      have A8 : ∀ j, 0 ≤ τ13.2.1 8 j ∧ τ13.2.1 8 j ≤ 1 := fun j => hT.2 8 j
      have A9 : ∀ j, (-1) ≤ τ13.2.1 9 j ∧ τ13.2.1 9 j ≤ 1499 := fun j => hT.2 9 j
      have A10 : ∀ j, (-1) ≤ τ13.2.1 10 j ∧ τ13.2.1 10 j ≤ 99 := fun j => hT.2 10 j
      have A11 : ∀ j, 0 ≤ τ13.2.1 11 j ∧ τ13.2.1 11 j ≤ 999 := fun j => hT.2 11 j
      have A13 : ∀ j, 0 ≤ τ13.2.1 13 j ∧ τ13.2.1 13 j ≤ 4 := fun j => hT.2 13 j
      have A14 : ∀ j, 0 ≤ τ13.2.1 14 j ∧ τ13.2.1 14 j ≤ 30000 := fun j => hT.2 14 j
      have A15 : ∀ j, 0 ≤ τ13.2.1 15 j ∧ τ13.2.1 15 j ≤ 999 := fun j => hT.2 15 j
      have A16 : ∀ j, (-1) ≤ τ13.2.1 16 j ∧ τ13.2.1 16 j ≤ 1499 := fun j => hT.2 16 j
      have A18 : ∀ j, 0 ≤ τ13.2.1 18 j ∧ τ13.2.1 18 j ≤ 1 := fun j => hT.2 18 j
      have A19 : ∀ j, (-1) ≤ τ13.2.1 19 j ∧ τ13.2.1 19 j ≤ 1499 := fun j => hT.2 19 j
      have A20 : ∀ j, 0 ≤ τ13.2.1 20 j ∧ τ13.2.1 20 j ≤ 999 := fun j => hT.2 20 j
      have A22 : ∀ j, 0 ≤ τ13.2.1 22 j ∧ τ13.2.1 22 j ≤ 1499 := fun j => hT.2 22 j
      have A23 : ∀ j, 0 ≤ τ13.2.1 23 j ∧ τ13.2.1 23 j ≤ 999 := fun j => hT.2 23 j
      have A24 : ∀ j, 0 ≤ τ13.2.1 24 j ∧ τ13.2.1 24 j ≤ 999 := fun j => hT.2 24 j
      have A26 : ∀ j, (-2147483648) ≤ τ13.2.1 26 j ∧ τ13.2.1 26 j ≤ 2147483647 := fun j => hT.2 26 j
      have A27 : ∀ j, 0 ≤ τ13.2.1 27 j ∧ τ13.2.1 27 j ≤ 90000 := fun j => hT.2 27 j
      have A28 : ∀ j, 0 ≤ τ13.2.1 28 j ∧ τ13.2.1 28 j ≤ 60 := fun j => hT.2 28 j
      have A29 : ∀ j, 0 ≤ τ13.2.1 29 j ∧ τ13.2.1 29 j ≤ 1499 := fun j => hT.2 29 j
      have A30 : ∀ j, 0 ≤ τ13.2.1 30 j ∧ τ13.2.1 30 j ≤ 20000 := fun j => hT.2 30 j
      have A31 : ∀ j, 0 ≤ τ13.2.1 31 j ∧ τ13.2.1 31 j ≤ 20000 := fun j => hT.2 31 j
      have A32 : ∀ j, 0 ≤ τ13.2.1 32 j ∧ τ13.2.1 32 j ≤ 999999 := fun j => hT.2 32 j
      have A33 : ∀ j, 0 ≤ τ13.2.1 33 j ∧ τ13.2.1 33 j ≤ 20000 := fun j => hT.2 33 j
      have A34 : ∀ j, 0 ≤ τ13.2.1 34 j ∧ τ13.2.1 34 j ≤ 20000 := fun j => hT.2 34 j
      have A35 : ∀ j, 0 ≤ τ13.2.1 35 j ∧ τ13.2.1 35 j ≤ 1499 := fun j => hT.2 35 j
      have A36 : ∀ j, 0 ≤ τ13.2.1 36 j ∧ τ13.2.1 36 j ≤ 20000 := fun j => hT.2 36 j
      have A37 : ∀ j, 0 ≤ τ13.2.1 37 j ∧ τ13.2.1 37 j ≤ 19999 := fun j => hT.2 37 j
      have A44 : ∀ j, 0 ≤ τ13.2.1 44 j ∧ τ13.2.1 44 j ≤ 42000 := fun j => hT.2 44 j
      have A45 : ∀ j, 0 ≤ τ13.2.1 45 j ∧ τ13.2.1 45 j ≤ 1000 := fun j => hT.2 45 j
      have A49 : ∀ j, (-300) ≤ τ13.2.1 49 j ∧ τ13.2.1 49 j ≤ 67035 := fun j => hT.2 49 j
      have A51 : ∀ j, 0 ≤ τ13.2.1 51 j ∧ τ13.2.1 51 j ≤ 1499 := fun j => hT.2 51 j
      have A54 : ∀ j, 0 ≤ τ13.2.1 54 j ∧ τ13.2.1 54 j ≤ 999 := fun j => hT.2 54 j
      have v3 : 0 ≤ τ13.1 3 ∧ τ13.1 3 ≤ 2500 := hT.1 3
      have v4 : 0 ≤ τ13.1 4 ∧ τ13.1 4 ≤ 100 := hT.1 4
      have v5 : 0 ≤ τ13.1 5 ∧ τ13.1 5 ≤ 1000 := hT.1 5
      have v6 : 0 ≤ τ13.1 6 ∧ τ13.1 6 ≤ 30000 := hT.1 6
      have v7 : 0 ≤ τ13.1 7 ∧ τ13.1 7 ≤ 1500 := hT.1 7
      have v8 : 0 ≤ τ13.1 8 ∧ τ13.1 8 ≤ 1000 := hT.1 8
      have v9 : 0 ≤ τ13.1 9 ∧ τ13.1 9 ≤ 1500 := hT.1 9
      have v10 : 0 ≤ τ13.1 10 ∧ τ13.1 10 ≤ 1000 := hT.1 10
      have v11 : 0 ≤ τ13.1 11 ∧ τ13.1 11 ≤ 50 := hT.1 11
      have v12 : (-2147483648) ≤ τ13.1 12 ∧ τ13.1 12 ≤ 2147483647 := hT.1 12
      have v13 : 0 ≤ τ13.1 13 ∧ τ13.1 13 ≤ 90000 := hT.1 13
      have v14 : 0 ≤ τ13.1 14 ∧ τ13.1 14 ≤ 20000 := hT.1 14
      have v15 : 0 ≤ τ13.1 15 ∧ τ13.1 15 ≤ 20000 := hT.1 15
      have v16 : 0 ≤ τ13.1 16 ∧ τ13.1 16 ≤ 20000 := hT.1 16
      have v21 : 0 ≤ τ13.1 21 ∧ τ13.1 21 ≤ 20000 := hT.1 21
      have v22 : 0 ≤ τ13.1 22 ∧ τ13.1 22 ≤ 300 := hT.1 22
      have v23 : 0 ≤ τ13.1 23 ∧ τ13.1 23 ≤ 300 := hT.1 23
      have v24 : 0 ≤ τ13.1 24 ∧ τ13.1 24 ≤ 1499 := hT.1 24
      have v25 : 0 ≤ τ13.1 25 ∧ τ13.1 25 ≤ 3 := hT.1 25
      have v26 : 0 ≤ τ13.1 26 ∧ τ13.1 26 ≤ 5000010 := hT.1 26
      have v27 : 0 ≤ τ13.1 27 ∧ τ13.1 27 ≤ 1 := hT.1 27
      have v35 : 0 ≤ τ13.1 35 ∧ τ13.1 35 ≤ 7 := hT.1 35
      have v36 : 0 ≤ τ13.1 36 ∧ τ13.1 36 ≤ 1001 := hT.1 36
      have v37 : 0 ≤ τ13.1 37 ∧ τ13.1 37 ≤ 4 := hT.1 37
      have a14_7 : 0 ≤ τ13.2.1 14 (τ13.1 7) ∧ τ13.2.1 14 (τ13.1 7) ≤ 30000 := hT.2 14 _
      have a36_15 : 0 ≤ τ13.2.1 36 (τ13.1 15) ∧ τ13.2.1 36 (τ13.1 15) ≤ 20000 := hT.2 36 _
      have av13 : σ.1 13 ≤ τ13.1 13 := ag.1 13 (by decide)
      have av14 : σ.1 14 ≤ τ13.1 14 := ag.1 14 (by decide)
      exact ⟨hT, (show 0 ≤ x12 ∧ x12 ≤ 19 from by (first | assumption | omega | (simp only [st_s] <;> omega) | fail)), (show J_ht (τ13.1 3) (τ13.2.1 2) (τ13.2.1 3) (τ13.2.1 5) (τ13.2.1 6) from HT), (show J_mn (τ13.1 3) (τ13.1 5) ((τ13.1 7) + 1) (τ13.2.1 4) from MN), (show J_rks (τ13.1 5) (τ13.1 4) (τ13.2.1 10) (τ13.2.1 11) from RKS), (show J_vs (τ13.1 8) (τ13.1 5) (τ13.2.1 20) from VS), (show J_vs (τ13.1 6) (τ13.1 5) (τ13.2.1 15) from TX), (show J_va (τ13.1 8) 1000 (τ13.2.1 18) (τ13.2.1 20) from VA), (show J_mk (τ13.1 11) (τ13.1 8) (τ13.1 9) (τ13.1 10) (τ13.2.1 25) from MK), (show J_sc (τ13.1 7) (τ13.1 9) (τ13.2.1 13) (τ13.2.1 14) (τ13.2.1 15) (τ13.2.1 16) (τ13.2.1 22) (τ13.2.1 19) from SC), (show J_ff (τ13.1 5) (τ13.1 7) (τ13.2.1 9) (τ13.2.1 13) (τ13.2.1 14) (τ13.2.1 15) from FF), (show ∀ s : Int, τ13.2.1 26 s ≤ (τ13.1 12) from MT), (show J_all (τ13.1 7) (τ13.1 6) (τ13.1 13) (τ13.1 14) (τ13.1 15) (τ13.2.1 13) (τ13.2.1 14) (τ13.2.1 15) (τ13.2.1 16) (τ13.2.1 10) (τ13.2.1 27) (τ13.2.1 28) (τ13.2.1 29) (τ13.2.1 30) (τ13.2.1 31) (τ13.2.1 32) (τ13.2.1 33) (τ13.2.1 34) (τ13.2.1 35) (τ13.2.1 36) (τ13.2.1 37) from CJ), (show J_bp (τ13.2.1 44) (τ13.2.1 45) from BP), (show J_nl (τ13.1 3) (τ13.2.1 2) (τ13.2.1 3) (τ13.2.1 4) from NL), (show x12 = 0 → J_rs (τ13.1 35) (τ13.1 7) (τ13.1 6) (τ13.1 36) (τ13.1 37) (τ13.1 5) (τ13.1 8) (τ13.2.1 14) from by (first | (intro z; exfalso; omega) | exact q1_15 | exact q4_15 | exact q7_15 | (intro z; have w := q15_2 z; unfold J_rs; rw [G14, W7]; omega) | (intro z; unfold J_rs; rw [G14, W7]; omega) | (first | (intro z; exfalso; omega) | (intro z; unfold J_rs; omega) | (intro z; unfold J_rs; rw [G14, W7]; omega)) | fail)), (show x12 = 0 → 5 ≤ (τ13.1 35) → 1 ≤ (τ13.1 36) → 0 ≤ τ13.2.1 10 (τ13.2.1 15 (τ13.2.1 14 (τ13.1 7))) from by (first | (intro z; exfalso; omega) | exact q1_16 | exact q4_16 | exact q7_16 | (intro z y y2; exfalso; omega) | (intro z y; have w := q15_2 z; exfalso; omega) | (first | (intro z; exfalso; omega) | (intro z y; exfalso; omega) | exact fun _ => uc | (intro z y y2; exact uc (by omega) (by omega)) | (intro z y y2; exfalso; omega) | (intro z y y2; rw [G10, G14, G15, W7]; exact uc (by omega) (by omega))) | fail)), (show x12 = 0 → (τ13.1 35) = 4 → j_in (τ13.1 36) 1000 (τ13.2.1 54) from by (first | (intro z; exfalso; omega) | exact q1_17 | exact q4_17 | exact q7_17 | (intro z y; rw [show τ17.1 36 = 0 from (q15_2 z).1]; exact j_in0 _ _) | (first | (intro z; exfalso; omega) | (intro z y; exfalso; omega) | exact fun _ => dj) | fail)), (show x12 = 0 → 5 ≤ (τ13.1 35) → J_ip (τ13.1 7) (τ13.1 6) (τ13.1 37) (τ13.2.1 14) (τ13.2.1 15) (τ13.2.1 16) (τ13.2.1 19) from by (first | (intro z; exfalso; omega) | exact q1_18 | exact q4_18 | exact q7_18 | (intro z y; have w := q15_2 z; exfalso; omega) | (intro z y; exact J_ip0 (by rw [W6, G14, W7]; omega)) | (first | (intro z; exfalso; omega) | (intro z y; exfalso; omega) | exact fun _ => ipx | (intro z y; exact ipx (by omega)) | (intro z y; rw [W7, W6, W37, G14, G15, G16, G19]; exact ipx (by omega))) | fail)), (show x12 = 0 → ((τ13.1 35) ≤ 5 → (τ13.1 13) ≤ 60 * (τ13.1 7)) ∧ (τ13.1 13) ≤ 60 * (τ13.1 7) + 60 from by (first | (intro z; exfalso; omega) | exact q1_19 | exact q4_19 | exact q7_19 | (intro z; omega) | fail)), (show x12 = 0 → 6 ≤ (τ13.1 35) → (τ13.1 24) = (τ13.1 7) ∧ J_f (τ13.1 7) (τ13.1 13) (τ13.1 14) (τ13.2.1 13) (τ13.2.1 14) (τ13.2.1 15) (τ13.2.1 16) (τ13.2.1 27) (τ13.2.1 28) (τ13.2.1 29) (τ13.2.1 30) (τ13.2.1 31) (τ13.2.1 32) from by (first | (intro z; exfalso; omega) | exact q1_20 | exact q4_20 | exact q7_20 | (intro z y; have w := q15_2 z; exfalso; omega) | (intro z y; exfalso; omega) | (first | (intro z; exfalso; omega) | (intro z y; exfalso; omega) | exact fun _ => frx | (intro z y; exact frx (by omega)) | (intro z y; have w := frx (by omega); rw [W7, W13, W14, W24, G13, G14, G15, G16, G27, G28, G29, G30, G31, G32]; exact w)) | fail)), (show x12 = 0 → 6 ≤ (τ13.1 35) → J_sp (τ13.1 24) (τ13.1 21) (τ13.1 23) (τ13.1 22) (τ13.2.1 49) (τ13.2.1 51) ∧ ((τ13.1 16) + (τ13.1 21) ≤ 20000) ∧ (¬ (τ13.1 27) = 0 → 1 ≤ (τ13.1 21) ∧ 0 ≤ τ13.2.1 49 ((τ13.1 21) - 1) ∧ τ13.2.1 49 ((τ13.1 21) - 1) < 65536) ∧ ((τ13.1 26) ≤ 1000000) ∧ ((τ13.1 25) ≤ 2 → (τ13.1 27) = 0) from by (first | (intro z; exfalso; omega) | exact q1_21 | exact q4_21 | exact q7_21 | (intro z y; have w := q15_2 z; exfalso; omega) | (intro z y; exfalso; omega) | (first | (intro z; exfalso; omega) | (intro z y; exfalso; omega) | exact fun _ => spx | (intro z y; exact spx (by omega))) | fail)), (show x12 = 0 → (τ13.1 15) ≤ (τ13.1 16) ∧ τ13.2.1 36 (τ13.1 15) ≤ (τ13.1 16) from by (first | (intro z; exfalso; omega) | exact q1_22 | exact q4_22 | exact q7_22 | (intro z; first | exact sux | omega) | fail)), (show x12 = 0 → (τ13.1 9) ≤ (τ13.1 7) from by (first | (intro z; exfalso; omega) | exact q1_23 | exact q4_23 | exact q7_23 | (intro z; omega) | fail)), (show j_rr ((σ.1 5)) (σ.2.1 10) (τ13.2.1 10) from by (first | exact j_rr0 _ _ | exact q1_24 | exact q4_24 | exact q7_24 | (rw [G10]; exact j_rr0 _ _) | fail)), (show j_eq (σ.2.1 36 (σ.1 15)) (σ.2.1 37) (τ13.2.1 37) from CH), (show (τ13.1 12) ≤ (σ.1 12) + 1 from by (first | assumption | omega | (simp only [st_s] <;> omega) | fail)), (show c_Y σ τ13 from by (first | exact c_Y0 _ | exact c_Y_g W4 G11 G20 G22 G25 | exact q1_27 | exact q4_27 | exact q7_27 | exact c_Y_g (by omega) (by rw [g11_τ4]) (by rw [g20_τ4]) (by rw [g22_τ4]) (by rw [g25_τ4]) | exact c_Y_g (by omega) (by rw [g11_τ13]) (by rw [g20_τ13]) (by rw [g22_τ13]) (by rw [g25_τ13]) | exact c_Y_g (by omega) (by rw [g11_τ17]) (by rw [g20_τ17]) (by rw [g22_τ17]) (by rw [g25_τ17]) | fail)), ag⟩
  ·
    refine h92 _ _ ?_
    refine ⟨fun c14 => ?_, fun c14 => ?_⟩
    ·
      exact ⟨hT, (show 0 ≤ 4 ∧ 4 ≤ 19 from by (first | assumption | omega | (simp only [st_s] <;> omega) | fail)), (show J_ht (σ.1 3) (σ.2.1 2) (σ.2.1 3) (σ.2.1 5) (σ.2.1 6) from HT), (show J_mn (σ.1 3) (σ.1 5) ((σ.1 7) + 1) (σ.2.1 4) from MN), (show J_rks (σ.1 5) (σ.1 4) (σ.2.1 10) (σ.2.1 11) from RKS), (show J_vs (σ.1 8) (σ.1 5) (σ.2.1 20) from VS), (show J_vs (σ.1 6) (σ.1 5) (σ.2.1 15) from TX), (show J_va (σ.1 8) 1000 (σ.2.1 18) (σ.2.1 20) from VA), (show J_mk (σ.1 11) (σ.1 8) (σ.1 9) (σ.1 10) (σ.2.1 25) from MK), (show J_sc (σ.1 7) (σ.1 9) (σ.2.1 13) (σ.2.1 14) (σ.2.1 15) (σ.2.1 16) (σ.2.1 22) (σ.2.1 19) from SC), (show J_ff (σ.1 5) (σ.1 7) (σ.2.1 9) (σ.2.1 13) (σ.2.1 14) (σ.2.1 15) from FF), (show ∀ s : Int, σ.2.1 26 s ≤ (σ.1 12) from MT), (show J_all (σ.1 7) (σ.1 6) (σ.1 13) (σ.1 14) (σ.1 15) (σ.2.1 13) (σ.2.1 14) (σ.2.1 15) (σ.2.1 16) (σ.2.1 10) (σ.2.1 27) (σ.2.1 28) (σ.2.1 29) (σ.2.1 30) (σ.2.1 31) (σ.2.1 32) (σ.2.1 33) (σ.2.1 34) (σ.2.1 35) (σ.2.1 36) (σ.2.1 37) from CJ), (show J_bp (σ.2.1 44) (σ.2.1 45) from BP), (show J_nl (σ.1 3) (σ.2.1 2) (σ.2.1 3) (σ.2.1 4) from NL), (show 4 = 0 → J_rs (σ.1 35) (σ.1 7) (σ.1 6) (σ.1 36) (σ.1 37) (σ.1 5) (σ.1 8) (σ.2.1 14) from by (first | (intro z; exfalso; omega) | exact q1_15 | exact q4_15 | exact q7_15 | (intro z; have w := q15_2 z; unfold J_rs; rw [G14, W7]; omega) | (intro z; unfold J_rs; rw [G14, W7]; omega) | (first | (intro z; exfalso; omega) | (intro z; unfold J_rs; omega) | (intro z; unfold J_rs; rw [G14, W7]; omega)) | fail)), (show 4 = 0 → 5 ≤ (σ.1 35) → 1 ≤ (σ.1 36) → 0 ≤ σ.2.1 10 (σ.2.1 15 (σ.2.1 14 (σ.1 7))) from by (first | (intro z; exfalso; omega) | exact q1_16 | exact q4_16 | exact q7_16 | (intro z y y2; exfalso; omega) | (intro z y; have w := q15_2 z; exfalso; omega) | (first | (intro z; exfalso; omega) | (intro z y; exfalso; omega) | exact fun _ => uc | (intro z y y2; exact uc (by omega) (by omega)) | (intro z y y2; exfalso; omega) | (intro z y y2; rw [G10, G14, G15, W7]; exact uc (by omega) (by omega))) | fail)), (show 4 = 0 → (σ.1 35) = 4 → j_in (σ.1 36) 1000 (σ.2.1 54) from by (first | (intro z; exfalso; omega) | exact q1_17 | exact q4_17 | exact q7_17 | (intro z y; rw [show τ17.1 36 = 0 from (q15_2 z).1]; exact j_in0 _ _) | (first | (intro z; exfalso; omega) | (intro z y; exfalso; omega) | exact fun _ => dj) | fail)), (show 4 = 0 → 5 ≤ (σ.1 35) → J_ip (σ.1 7) (σ.1 6) (σ.1 37) (σ.2.1 14) (σ.2.1 15) (σ.2.1 16) (σ.2.1 19) from by (first | (intro z; exfalso; omega) | exact q1_18 | exact q4_18 | exact q7_18 | (intro z y; have w := q15_2 z; exfalso; omega) | (intro z y; exact J_ip0 (by rw [W6, G14, W7]; omega)) | (first | (intro z; exfalso; omega) | (intro z y; exfalso; omega) | exact fun _ => ipx | (intro z y; exact ipx (by omega)) | (intro z y; rw [W7, W6, W37, G14, G15, G16, G19]; exact ipx (by omega))) | fail)), (show 4 = 0 → ((σ.1 35) ≤ 5 → (σ.1 13) ≤ 60 * (σ.1 7)) ∧ (σ.1 13) ≤ 60 * (σ.1 7) + 60 from by (first | (intro z; exfalso; omega) | exact q1_19 | exact q4_19 | exact q7_19 | (intro z; omega) | fail)), (show 4 = 0 → 6 ≤ (σ.1 35) → (σ.1 24) = (σ.1 7) ∧ J_f (σ.1 7) (σ.1 13) (σ.1 14) (σ.2.1 13) (σ.2.1 14) (σ.2.1 15) (σ.2.1 16) (σ.2.1 27) (σ.2.1 28) (σ.2.1 29) (σ.2.1 30) (σ.2.1 31) (σ.2.1 32) from by (first | (intro z; exfalso; omega) | exact q1_20 | exact q4_20 | exact q7_20 | (intro z y; have w := q15_2 z; exfalso; omega) | (intro z y; exfalso; omega) | (first | (intro z; exfalso; omega) | (intro z y; exfalso; omega) | exact fun _ => frx | (intro z y; exact frx (by omega)) | (intro z y; have w := frx (by omega); rw [W7, W13, W14, W24, G13, G14, G15, G16, G27, G28, G29, G30, G31, G32]; exact w)) | fail)), (show 4 = 0 → 6 ≤ (σ.1 35) → J_sp (σ.1 24) (σ.1 21) (σ.1 23) (σ.1 22) (σ.2.1 49) (σ.2.1 51) ∧ ((σ.1 16) + (σ.1 21) ≤ 20000) ∧ (¬ (σ.1 27) = 0 → 1 ≤ (σ.1 21) ∧ 0 ≤ σ.2.1 49 ((σ.1 21) - 1) ∧ σ.2.1 49 ((σ.1 21) - 1) < 65536) ∧ ((σ.1 26) ≤ 1000000) ∧ ((σ.1 25) ≤ 2 → (σ.1 27) = 0) from by (first | (intro z; exfalso; omega) | exact q1_21 | exact q4_21 | exact q7_21 | (intro z y; have w := q15_2 z; exfalso; omega) | (intro z y; exfalso; omega) | (first | (intro z; exfalso; omega) | (intro z y; exfalso; omega) | exact fun _ => spx | (intro z y; exact spx (by omega))) | fail)), (show 4 = 0 → (σ.1 15) ≤ (σ.1 16) ∧ σ.2.1 36 (σ.1 15) ≤ (σ.1 16) from by (first | (intro z; exfalso; omega) | exact q1_22 | exact q4_22 | exact q7_22 | (intro z; first | exact sux | omega) | fail)), (show 4 = 0 → (σ.1 9) ≤ (σ.1 7) from by (first | (intro z; exfalso; omega) | exact q1_23 | exact q4_23 | exact q7_23 | (intro z; omega) | fail)), (show j_rr ((σ.1 5)) (σ.2.1 10) (σ.2.1 10) from by (first | exact j_rr0 _ _ | exact q1_24 | exact q4_24 | exact q7_24 | (rw [G10]; exact j_rr0 _ _) | fail)), (show j_eq (σ.2.1 36 (σ.1 15)) (σ.2.1 37) (σ.2.1 37) from CH), (show (σ.1 12) ≤ (σ.1 12) + 1 from by (first | assumption | omega | (simp only [st_s] <;> omega) | fail)), (show c_Y σ σ from by (first | exact c_Y0 _ | exact c_Y_g W4 G11 G20 G22 G25 | exact q1_27 | exact q4_27 | exact q7_27 | exact c_Y_g (by omega) (by rw [g11_τ4]) (by rw [g20_τ4]) (by rw [g22_τ4]) (by rw [g25_τ4]) | exact c_Y_g (by omega) (by rw [g11_τ13]) (by rw [g20_τ13]) (by rw [g22_τ13]) (by rw [g25_τ13]) | exact c_Y_g (by omega) (by rw [g11_τ17]) (by rw [g20_τ17]) (by rw [g22_τ17]) (by rw [g25_τ17]) | fail)), ag⟩
    ·
      refine ⟨_, K2_X7_declaration hT, ?_⟩
      intro x16 τ17 r_x16 hn_τ17 hf_τ17 hq
      obtain ⟨hT, q15_1, q15_2⟩ := hq
      replace q15_1 : 0 ≤ x16 ∧ x16 ≤ 19 := q15_1
      replace q15_2 : x16 = 0 → (τ17.1 36) = 0 ∧ 2 ≤ (τ17.1 35) ∧ (τ17.1 35) ≤ 4 := q15_2
      replace ag : c_ag σ τ17 := ag_r ag hf_τ17 rfl rfl
      have w3_τ17 : τ17.1 3 = σ.1 3 := hf_τ17.1 3 (by decide)
      have w4_τ17 : τ17.1 4 = σ.1 4 := hf_τ17.1 4 (by decide)
      have w5_τ17 : τ17.1 5 = σ.1 5 := hf_τ17.1 5 (by decide)
      have w6_τ17 : τ17.1 6 = σ.1 6 := hf_τ17.1 6 (by decide)
      have w7_τ17 : τ17.1 7 = σ.1 7 := hf_τ17.1 7 (by decide)
      have w8_τ17 : τ17.1 8 = σ.1 8 := hf_τ17.1 8 (by decide)
      have w9_τ17 : τ17.1 9 = σ.1 9 := hf_τ17.1 9 (by decide)
      have w10_τ17 : τ17.1 10 = σ.1 10 := hf_τ17.1 10 (by decide)
      have w11_τ17 : τ17.1 11 = σ.1 11 := hf_τ17.1 11 (by decide)
      have w12_τ17 : τ17.1 12 = σ.1 12 := hf_τ17.1 12 (by decide)
      have w13_τ17 : τ17.1 13 = σ.1 13 := hf_τ17.1 13 (by decide)
      have w14_τ17 : τ17.1 14 = σ.1 14 := hf_τ17.1 14 (by decide)
      have w15_τ17 : τ17.1 15 = σ.1 15 := hf_τ17.1 15 (by decide)
      have w16_τ17 : τ17.1 16 = σ.1 16 := hf_τ17.1 16 (by decide)
      have w21_τ17 : τ17.1 21 = σ.1 21 := hf_τ17.1 21 (by decide)
      have w22_τ17 : τ17.1 22 = σ.1 22 := hf_τ17.1 22 (by decide)
      have w23_τ17 : τ17.1 23 = σ.1 23 := hf_τ17.1 23 (by decide)
      have w24_τ17 : τ17.1 24 = σ.1 24 := hf_τ17.1 24 (by decide)
      have w25_τ17 : τ17.1 25 = σ.1 25 := hf_τ17.1 25 (by decide)
      have w26_τ17 : τ17.1 26 = σ.1 26 := hf_τ17.1 26 (by decide)
      have w27_τ17 : τ17.1 27 = σ.1 27 := hf_τ17.1 27 (by decide)
      have w37_τ17 : τ17.1 37 = σ.1 37 := hf_τ17.1 37 (by decide)
      have g2_τ17 : τ17.2.1 2 = σ.2.1 2 := hf_τ17.2.1 2 (by decide)
      have g3_τ17 : τ17.2.1 3 = σ.2.1 3 := hf_τ17.2.1 3 (by decide)
      have g4_τ17 : τ17.2.1 4 = σ.2.1 4 := hf_τ17.2.1 4 (by decide)
      have g5_τ17 : τ17.2.1 5 = σ.2.1 5 := hf_τ17.2.1 5 (by decide)
      have g6_τ17 : τ17.2.1 6 = σ.2.1 6 := hf_τ17.2.1 6 (by decide)
      have g8_τ17 : τ17.2.1 8 = σ.2.1 8 := hf_τ17.2.1 8 (by decide)
      have g9_τ17 : τ17.2.1 9 = σ.2.1 9 := hf_τ17.2.1 9 (by decide)
      have g10_τ17 : τ17.2.1 10 = σ.2.1 10 := hf_τ17.2.1 10 (by decide)
      have g11_τ17 : τ17.2.1 11 = σ.2.1 11 := hf_τ17.2.1 11 (by decide)
      have g13_τ17 : τ17.2.1 13 = σ.2.1 13 := hf_τ17.2.1 13 (by decide)
      have g14_τ17 : τ17.2.1 14 = σ.2.1 14 := hf_τ17.2.1 14 (by decide)
      have g15_τ17 : τ17.2.1 15 = σ.2.1 15 := hf_τ17.2.1 15 (by decide)
      have g16_τ17 : τ17.2.1 16 = σ.2.1 16 := hf_τ17.2.1 16 (by decide)
      have g18_τ17 : τ17.2.1 18 = σ.2.1 18 := hf_τ17.2.1 18 (by decide)
      have g19_τ17 : τ17.2.1 19 = σ.2.1 19 := hf_τ17.2.1 19 (by decide)
      have g20_τ17 : τ17.2.1 20 = σ.2.1 20 := hf_τ17.2.1 20 (by decide)
      have g22_τ17 : τ17.2.1 22 = σ.2.1 22 := hf_τ17.2.1 22 (by decide)
      have g23_τ17 : τ17.2.1 23 = σ.2.1 23 := hf_τ17.2.1 23 (by decide)
      have g24_τ17 : τ17.2.1 24 = σ.2.1 24 := hf_τ17.2.1 24 (by decide)
      have g25_τ17 : τ17.2.1 25 = σ.2.1 25 := hf_τ17.2.1 25 (by decide)
      have g26_τ17 : τ17.2.1 26 = σ.2.1 26 := hf_τ17.2.1 26 (by decide)
      have g27_τ17 : τ17.2.1 27 = σ.2.1 27 := hf_τ17.2.1 27 (by decide)
      have g28_τ17 : τ17.2.1 28 = σ.2.1 28 := hf_τ17.2.1 28 (by decide)
      have g29_τ17 : τ17.2.1 29 = σ.2.1 29 := hf_τ17.2.1 29 (by decide)
      have g30_τ17 : τ17.2.1 30 = σ.2.1 30 := hf_τ17.2.1 30 (by decide)
      have g31_τ17 : τ17.2.1 31 = σ.2.1 31 := hf_τ17.2.1 31 (by decide)
      have g32_τ17 : τ17.2.1 32 = σ.2.1 32 := hf_τ17.2.1 32 (by decide)
      have g33_τ17 : τ17.2.1 33 = σ.2.1 33 := hf_τ17.2.1 33 (by decide)
      have g34_τ17 : τ17.2.1 34 = σ.2.1 34 := hf_τ17.2.1 34 (by decide)
      have g35_τ17 : τ17.2.1 35 = σ.2.1 35 := hf_τ17.2.1 35 (by decide)
      have g36_τ17 : τ17.2.1 36 = σ.2.1 36 := hf_τ17.2.1 36 (by decide)
      have g37_τ17 : τ17.2.1 37 = σ.2.1 37 := hf_τ17.2.1 37 (by decide)
      have g44_τ17 : τ17.2.1 44 = σ.2.1 44 := hf_τ17.2.1 44 (by decide)
      have g45_τ17 : τ17.2.1 45 = σ.2.1 45 := hf_τ17.2.1 45 (by decide)
      have g49_τ17 : τ17.2.1 49 = σ.2.1 49 := hf_τ17.2.1 49 (by decide)
      have g51_τ17 : τ17.2.1 51 = σ.2.1 51 := hf_τ17.2.1 51 (by decide)
      have g54_τ17 : τ17.2.1 54 = σ.2.1 54 := hf_τ17.2.1 54 (by decide)
      have W3 : τ17.1 3 = σ.1 3 := by omega
      have W4 : τ17.1 4 = σ.1 4 := by omega
      have W5 : τ17.1 5 = σ.1 5 := by omega
      have W6 : τ17.1 6 = σ.1 6 := by omega
      have W7 : τ17.1 7 = σ.1 7 := by omega
      have W15 : τ17.1 15 = σ.1 15 := by omega
      have W16 : τ17.1 16 = σ.1 16 := by omega
      have G2 : τ17.2.1 2 = σ.2.1 2 := (g2_τ17).trans G2
      have G3 : τ17.2.1 3 = σ.2.1 3 := (g3_τ17).trans G3
      have G4 : τ17.2.1 4 = σ.2.1 4 := (g4_τ17).trans G4
      have G5 : τ17.2.1 5 = σ.2.1 5 := (g5_τ17).trans G5
      have G6 : τ17.2.1 6 = σ.2.1 6 := (g6_τ17).trans G6
      have G8 : τ17.2.1 8 = σ.2.1 8 := (g8_τ17).trans G8
      have G9 : τ17.2.1 9 = σ.2.1 9 := (g9_τ17).trans G9
      have G10 : τ17.2.1 10 = σ.2.1 10 := (g10_τ17).trans G10
      have G11 : τ17.2.1 11 = σ.2.1 11 := (g11_τ17).trans G11
      have G13 : τ17.2.1 13 = σ.2.1 13 := (g13_τ17).trans G13
      have G14 : τ17.2.1 14 = σ.2.1 14 := (g14_τ17).trans G14
      have G15 : τ17.2.1 15 = σ.2.1 15 := (g15_τ17).trans G15
      have G16 : τ17.2.1 16 = σ.2.1 16 := (g16_τ17).trans G16
      have G20 : τ17.2.1 20 = σ.2.1 20 := (g20_τ17).trans G20
      have G22 : τ17.2.1 22 = σ.2.1 22 := (g22_τ17).trans G22
      have G23 : τ17.2.1 23 = σ.2.1 23 := (g23_τ17).trans G23
      have G24 : τ17.2.1 24 = σ.2.1 24 := (g24_τ17).trans G24
      have G33 : τ17.2.1 33 = σ.2.1 33 := (g33_τ17).trans G33
      have G34 : τ17.2.1 34 = σ.2.1 34 := (g34_τ17).trans G34
      have G35 : τ17.2.1 35 = σ.2.1 35 := (g35_τ17).trans G35
      have G36 : τ17.2.1 36 = σ.2.1 36 := (g36_τ17).trans G36
      have G37 : τ17.2.1 37 = σ.2.1 37 := (g37_τ17).trans G37
      have G44 : τ17.2.1 44 = σ.2.1 44 := (g44_τ17).trans G44
      have G45 : τ17.2.1 45 = σ.2.1 45 := (g45_τ17).trans G45
      have G49 : τ17.2.1 49 = σ.2.1 49 := (g49_τ17).trans G49
      have G51 : τ17.2.1 51 = σ.2.1 51 := (g51_τ17).trans G51
      have G54 : τ17.2.1 54 = σ.2.1 54 := (g54_τ17).trans G54
      have y14_7_τ17 : τ17.2.1 14 (τ17.1 7) = (σ.2.1 14) (σ.1 7) := by rw [g14_τ17, w7_τ17]
      have y36_15_τ17 : τ17.2.1 36 (τ17.1 15) = (σ.2.1 36) (σ.1 15) := by rw [g36_τ17, w15_τ17]
      have HT : J_ht (τ17.1 3) (τ17.2.1 2) (τ17.2.1 3) (τ17.2.1 5) (τ17.2.1 6) := by rw [show (J_ht (τ17.1 3) (τ17.2.1 2) (τ17.2.1 3) (τ17.2.1 5) (τ17.2.1 6)) = (J_ht (σ.1 3) (σ.2.1 2) (σ.2.1 3) (σ.2.1 5) (σ.2.1 6)) from by rw [w3_τ17, g2_τ17, g3_τ17, g5_τ17, g6_τ17]]; exact HT
      have NL : J_nl (τ17.1 3) (τ17.2.1 2) (τ17.2.1 3) (τ17.2.1 4) := by rw [show (J_nl (τ17.1 3) (τ17.2.1 2) (τ17.2.1 3) (τ17.2.1 4)) = (J_nl (σ.1 3) (σ.2.1 2) (σ.2.1 3) (σ.2.1 4)) from by rw [w3_τ17, g2_τ17, g3_τ17, g4_τ17]]; exact NL
      have MN : J_mn (τ17.1 3) (τ17.1 5) ((τ17.1 7) + 1) (τ17.2.1 4) := by rw [show (J_mn (τ17.1 3) (τ17.1 5) ((τ17.1 7) + 1) (τ17.2.1 4)) = (J_mn (σ.1 3) (σ.1 5) ((σ.1 7) + 1) (σ.2.1 4)) from by rw [w3_τ17, w5_τ17, w7_τ17, g4_τ17]]; exact MN
      have VA : J_va (τ17.1 8) 1000 (τ17.2.1 18) (τ17.2.1 20) := by rw [show (J_va (τ17.1 8) 1000 (τ17.2.1 18) (τ17.2.1 20)) = (J_va (σ.1 8) 1000 (σ.2.1 18) (σ.2.1 20)) from by rw [w8_τ17, g18_τ17, g20_τ17]]; exact VA
      have SC : J_sc (τ17.1 7) (τ17.1 9) (τ17.2.1 13) (τ17.2.1 14) (τ17.2.1 15) (τ17.2.1 16) (τ17.2.1 22) (τ17.2.1 19) := by rw [show (J_sc (τ17.1 7) (τ17.1 9) (τ17.2.1 13) (τ17.2.1 14) (τ17.2.1 15) (τ17.2.1 16) (τ17.2.1 22) (τ17.2.1 19)) = (J_sc (σ.1 7) (σ.1 9) (σ.2.1 13) (σ.2.1 14) (σ.2.1 15) (σ.2.1 16) (σ.2.1 22) (σ.2.1 19)) from by rw [w7_τ17, w9_τ17, g13_τ17, g14_τ17, g15_τ17, g16_τ17, g19_τ17, g22_τ17]]; exact SC
      have MK : J_mk (τ17.1 11) (τ17.1 8) (τ17.1 9) (τ17.1 10) (τ17.2.1 25) := by rw [show (J_mk (τ17.1 11) (τ17.1 8) (τ17.1 9) (τ17.1 10) (τ17.2.1 25)) = (J_mk (σ.1 11) (σ.1 8) (σ.1 9) (σ.1 10) (σ.2.1 25)) from by rw [w8_τ17, w9_τ17, w10_τ17, w11_τ17, g25_τ17]]; exact MK
      have FF : J_ff (τ17.1 5) (τ17.1 7) (τ17.2.1 9) (τ17.2.1 13) (τ17.2.1 14) (τ17.2.1 15) := by rw [show (J_ff (τ17.1 5) (τ17.1 7) (τ17.2.1 9) (τ17.2.1 13) (τ17.2.1 14) (τ17.2.1 15)) = (J_ff (σ.1 5) (σ.1 7) (σ.2.1 9) (σ.2.1 13) (σ.2.1 14) (σ.2.1 15)) from by rw [w5_τ17, w7_τ17, g9_τ17, g13_τ17, g14_τ17, g15_τ17]]; exact FF
      have MT : ∀ s : Int, τ17.2.1 26 s ≤ (τ17.1 12) := by rw [show (∀ s : Int, τ17.2.1 26 s ≤ (τ17.1 12)) = (∀ s : Int, σ.2.1 26 s ≤ (σ.1 12)) from by rw [w12_τ17, g26_τ17]]; exact MT
      have VS : J_vs (τ17.1 8) (τ17.1 5) (τ17.2.1 20) := by rw [show (J_vs (τ17.1 8) (τ17.1 5) (τ17.2.1 20)) = (J_vs (σ.1 8) (σ.1 5) (σ.2.1 20)) from by rw [w5_τ17, w8_τ17, g20_τ17]]; exact VS
      have TX : J_vs (τ17.1 6) (τ17.1 5) (τ17.2.1 15) := by rw [show (J_vs (τ17.1 6) (τ17.1 5) (τ17.2.1 15)) = (J_vs (σ.1 6) (σ.1 5) (σ.2.1 15)) from by rw [w5_τ17, w6_τ17, g15_τ17]]; exact TX
      have RKS : J_rks (τ17.1 5) (τ17.1 4) (τ17.2.1 10) (τ17.2.1 11) := by rw [show (J_rks (τ17.1 5) (τ17.1 4) (τ17.2.1 10) (τ17.2.1 11)) = (J_rks (σ.1 5) (σ.1 4) (σ.2.1 10) (σ.2.1 11)) from by rw [w4_τ17, w5_τ17, g10_τ17, g11_τ17]]; exact RKS
      have CJ : J_all (τ17.1 7) (τ17.1 6) (τ17.1 13) (τ17.1 14) (τ17.1 15) (τ17.2.1 13) (τ17.2.1 14) (τ17.2.1 15) (τ17.2.1 16) (τ17.2.1 10) (τ17.2.1 27) (τ17.2.1 28) (τ17.2.1 29) (τ17.2.1 30) (τ17.2.1 31) (τ17.2.1 32) (τ17.2.1 33) (τ17.2.1 34) (τ17.2.1 35) (τ17.2.1 36) (τ17.2.1 37) := by rw [show (J_all (τ17.1 7) (τ17.1 6) (τ17.1 13) (τ17.1 14) (τ17.1 15) (τ17.2.1 13) (τ17.2.1 14) (τ17.2.1 15) (τ17.2.1 16) (τ17.2.1 10) (τ17.2.1 27) (τ17.2.1 28) (τ17.2.1 29) (τ17.2.1 30) (τ17.2.1 31) (τ17.2.1 32) (τ17.2.1 33) (τ17.2.1 34) (τ17.2.1 35) (τ17.2.1 36) (τ17.2.1 37)) = (J_all (σ.1 7) (σ.1 6) (σ.1 13) (σ.1 14) (σ.1 15) (σ.2.1 13) (σ.2.1 14) (σ.2.1 15) (σ.2.1 16) (σ.2.1 10) (σ.2.1 27) (σ.2.1 28) (σ.2.1 29) (σ.2.1 30) (σ.2.1 31) (σ.2.1 32) (σ.2.1 33) (σ.2.1 34) (σ.2.1 35) (σ.2.1 36) (σ.2.1 37)) from by rw [w6_τ17, w7_τ17, w13_τ17, w14_τ17, w15_τ17, g10_τ17, g13_τ17, g14_τ17, g15_τ17, g16_τ17, g27_τ17, g28_τ17, g29_τ17, g30_τ17, g31_τ17, g32_τ17, g33_τ17, g34_τ17, g35_τ17, g36_τ17, g37_τ17]]; exact CJ
      have BP : J_bp (τ17.2.1 44) (τ17.2.1 45) := by rw [show (J_bp (τ17.2.1 44) (τ17.2.1 45)) = (J_bp (σ.2.1 44) (σ.2.1 45)) from by rw [g44_τ17, g45_τ17]]; exact BP
      have CH : j_eq (σ.2.1 36 (σ.1 15)) (σ.2.1 37) (τ17.2.1 37) := by rw [show (j_eq (σ.2.1 36 (σ.1 15)) (σ.2.1 37) (τ17.2.1 37)) = (j_eq (σ.2.1 36 (σ.1 15)) (σ.2.1 37) (σ.2.1 37)) from by rw [g37_τ17]]; exact CH
      have A2 : ∀ j, 0 ≤ τ17.2.1 2 j ∧ τ17.2.1 2 j ≤ 65535 := fun j => hT.2 2 j
      have A3 : ∀ j, 0 ≤ τ17.2.1 3 j ∧ τ17.2.1 3 j ≤ 30000 := fun j => hT.2 3 j
      have A4 : ∀ j, (-1000) ≤ τ17.2.1 4 j ∧ τ17.2.1 4 j ≤ 1499 := fun j => hT.2 4 j
      have A5 : ∀ j, 0 ≤ τ17.2.1 5 j ∧ τ17.2.1 5 j ≤ 2500 := fun j => hT.2 5 j
      have A6 : ∀ j, 0 ≤ τ17.2.1 6 j ∧ τ17.2.1 6 j ≤ 2500 := fun j => hT.2 6 j
      have A8 : ∀ j, 0 ≤ τ17.2.1 8 j ∧ τ17.2.1 8 j ≤ 1 := fun j => hT.2 8 j
      have A9 : ∀ j, (-1) ≤ τ17.2.1 9 j ∧ τ17.2.1 9 j ≤ 1499 := fun j => hT.2 9 j
      have A10 : ∀ j, (-1) ≤ τ17.2.1 10 j ∧ τ17.2.1 10 j ≤ 99 := fun j => hT.2 10 j
      have A11 : ∀ j, 0 ≤ τ17.2.1 11 j ∧ τ17.2.1 11 j ≤ 999 := fun j => hT.2 11 j
      have A13 : ∀ j, 0 ≤ τ17.2.1 13 j ∧ τ17.2.1 13 j ≤ 4 := fun j => hT.2 13 j
      have A14 : ∀ j, 0 ≤ τ17.2.1 14 j ∧ τ17.2.1 14 j ≤ 30000 := fun j => hT.2 14 j
      have A15 : ∀ j, 0 ≤ τ17.2.1 15 j ∧ τ17.2.1 15 j ≤ 999 := fun j => hT.2 15 j
      have A16 : ∀ j, (-1) ≤ τ17.2.1 16 j ∧ τ17.2.1 16 j ≤ 1499 := fun j => hT.2 16 j
      have A18 : ∀ j, 0 ≤ τ17.2.1 18 j ∧ τ17.2.1 18 j ≤ 1 := fun j => hT.2 18 j
      have A19 : ∀ j, (-1) ≤ τ17.2.1 19 j ∧ τ17.2.1 19 j ≤ 1499 := fun j => hT.2 19 j
      have A20 : ∀ j, 0 ≤ τ17.2.1 20 j ∧ τ17.2.1 20 j ≤ 999 := fun j => hT.2 20 j
      have A22 : ∀ j, 0 ≤ τ17.2.1 22 j ∧ τ17.2.1 22 j ≤ 1499 := fun j => hT.2 22 j
      have A23 : ∀ j, 0 ≤ τ17.2.1 23 j ∧ τ17.2.1 23 j ≤ 999 := fun j => hT.2 23 j
      have A24 : ∀ j, 0 ≤ τ17.2.1 24 j ∧ τ17.2.1 24 j ≤ 999 := fun j => hT.2 24 j
      have A26 : ∀ j, (-2147483648) ≤ τ17.2.1 26 j ∧ τ17.2.1 26 j ≤ 2147483647 := fun j => hT.2 26 j
      have A27 : ∀ j, 0 ≤ τ17.2.1 27 j ∧ τ17.2.1 27 j ≤ 90000 := fun j => hT.2 27 j
      have A28 : ∀ j, 0 ≤ τ17.2.1 28 j ∧ τ17.2.1 28 j ≤ 60 := fun j => hT.2 28 j
      have A29 : ∀ j, 0 ≤ τ17.2.1 29 j ∧ τ17.2.1 29 j ≤ 1499 := fun j => hT.2 29 j
      have A30 : ∀ j, 0 ≤ τ17.2.1 30 j ∧ τ17.2.1 30 j ≤ 20000 := fun j => hT.2 30 j
      have A31 : ∀ j, 0 ≤ τ17.2.1 31 j ∧ τ17.2.1 31 j ≤ 20000 := fun j => hT.2 31 j
      have A32 : ∀ j, 0 ≤ τ17.2.1 32 j ∧ τ17.2.1 32 j ≤ 999999 := fun j => hT.2 32 j
      have A33 : ∀ j, 0 ≤ τ17.2.1 33 j ∧ τ17.2.1 33 j ≤ 20000 := fun j => hT.2 33 j
      have A34 : ∀ j, 0 ≤ τ17.2.1 34 j ∧ τ17.2.1 34 j ≤ 20000 := fun j => hT.2 34 j
      have A35 : ∀ j, 0 ≤ τ17.2.1 35 j ∧ τ17.2.1 35 j ≤ 1499 := fun j => hT.2 35 j
      have A36 : ∀ j, 0 ≤ τ17.2.1 36 j ∧ τ17.2.1 36 j ≤ 20000 := fun j => hT.2 36 j
      have A37 : ∀ j, 0 ≤ τ17.2.1 37 j ∧ τ17.2.1 37 j ≤ 19999 := fun j => hT.2 37 j
      have A44 : ∀ j, 0 ≤ τ17.2.1 44 j ∧ τ17.2.1 44 j ≤ 42000 := fun j => hT.2 44 j
      have A45 : ∀ j, 0 ≤ τ17.2.1 45 j ∧ τ17.2.1 45 j ≤ 1000 := fun j => hT.2 45 j
      have A49 : ∀ j, (-300) ≤ τ17.2.1 49 j ∧ τ17.2.1 49 j ≤ 67035 := fun j => hT.2 49 j
      have A51 : ∀ j, 0 ≤ τ17.2.1 51 j ∧ τ17.2.1 51 j ≤ 1499 := fun j => hT.2 51 j
      have A54 : ∀ j, 0 ≤ τ17.2.1 54 j ∧ τ17.2.1 54 j ≤ 999 := fun j => hT.2 54 j
      have v3 : 0 ≤ τ17.1 3 ∧ τ17.1 3 ≤ 2500 := hT.1 3
      have v4 : 0 ≤ τ17.1 4 ∧ τ17.1 4 ≤ 100 := hT.1 4
      have v5 : 0 ≤ τ17.1 5 ∧ τ17.1 5 ≤ 1000 := hT.1 5
      have v6 : 0 ≤ τ17.1 6 ∧ τ17.1 6 ≤ 30000 := hT.1 6
      have v7 : 0 ≤ τ17.1 7 ∧ τ17.1 7 ≤ 1500 := hT.1 7
      have v8 : 0 ≤ τ17.1 8 ∧ τ17.1 8 ≤ 1000 := hT.1 8
      have v9 : 0 ≤ τ17.1 9 ∧ τ17.1 9 ≤ 1500 := hT.1 9
      have v10 : 0 ≤ τ17.1 10 ∧ τ17.1 10 ≤ 1000 := hT.1 10
      have v11 : 0 ≤ τ17.1 11 ∧ τ17.1 11 ≤ 50 := hT.1 11
      have v12 : (-2147483648) ≤ τ17.1 12 ∧ τ17.1 12 ≤ 2147483647 := hT.1 12
      have v13 : 0 ≤ τ17.1 13 ∧ τ17.1 13 ≤ 90000 := hT.1 13
      have v14 : 0 ≤ τ17.1 14 ∧ τ17.1 14 ≤ 20000 := hT.1 14
      have v15 : 0 ≤ τ17.1 15 ∧ τ17.1 15 ≤ 20000 := hT.1 15
      have v16 : 0 ≤ τ17.1 16 ∧ τ17.1 16 ≤ 20000 := hT.1 16
      have v21 : 0 ≤ τ17.1 21 ∧ τ17.1 21 ≤ 20000 := hT.1 21
      have v22 : 0 ≤ τ17.1 22 ∧ τ17.1 22 ≤ 300 := hT.1 22
      have v23 : 0 ≤ τ17.1 23 ∧ τ17.1 23 ≤ 300 := hT.1 23
      have v24 : 0 ≤ τ17.1 24 ∧ τ17.1 24 ≤ 1499 := hT.1 24
      have v25 : 0 ≤ τ17.1 25 ∧ τ17.1 25 ≤ 3 := hT.1 25
      have v26 : 0 ≤ τ17.1 26 ∧ τ17.1 26 ≤ 5000010 := hT.1 26
      have v27 : 0 ≤ τ17.1 27 ∧ τ17.1 27 ≤ 1 := hT.1 27
      have v35 : 0 ≤ τ17.1 35 ∧ τ17.1 35 ≤ 7 := hT.1 35
      have v36 : 0 ≤ τ17.1 36 ∧ τ17.1 36 ≤ 1001 := hT.1 36
      have v37 : 0 ≤ τ17.1 37 ∧ τ17.1 37 ≤ 4 := hT.1 37
      have a14_7 : 0 ≤ τ17.2.1 14 (τ17.1 7) ∧ τ17.2.1 14 (τ17.1 7) ≤ 30000 := hT.2 14 _
      have a36_15 : 0 ≤ τ17.2.1 36 (τ17.1 15) ∧ τ17.2.1 36 (τ17.1 15) ≤ 20000 := hT.2 36 _
      have av13 : σ.1 13 ≤ τ17.1 13 := ag.1 13 (by decide)
      have av14 : σ.1 14 ≤ τ17.1 14 := ag.1 14 (by decide)
      exact ⟨hT, (show 0 ≤ x16 ∧ x16 ≤ 19 from by (first | assumption | omega | (simp only [st_s] <;> omega) | fail)), (show J_ht (τ17.1 3) (τ17.2.1 2) (τ17.2.1 3) (τ17.2.1 5) (τ17.2.1 6) from HT), (show J_mn (τ17.1 3) (τ17.1 5) ((τ17.1 7) + 1) (τ17.2.1 4) from MN), (show J_rks (τ17.1 5) (τ17.1 4) (τ17.2.1 10) (τ17.2.1 11) from RKS), (show J_vs (τ17.1 8) (τ17.1 5) (τ17.2.1 20) from VS), (show J_vs (τ17.1 6) (τ17.1 5) (τ17.2.1 15) from TX), (show J_va (τ17.1 8) 1000 (τ17.2.1 18) (τ17.2.1 20) from VA), (show J_mk (τ17.1 11) (τ17.1 8) (τ17.1 9) (τ17.1 10) (τ17.2.1 25) from MK), (show J_sc (τ17.1 7) (τ17.1 9) (τ17.2.1 13) (τ17.2.1 14) (τ17.2.1 15) (τ17.2.1 16) (τ17.2.1 22) (τ17.2.1 19) from SC), (show J_ff (τ17.1 5) (τ17.1 7) (τ17.2.1 9) (τ17.2.1 13) (τ17.2.1 14) (τ17.2.1 15) from FF), (show ∀ s : Int, τ17.2.1 26 s ≤ (τ17.1 12) from MT), (show J_all (τ17.1 7) (τ17.1 6) (τ17.1 13) (τ17.1 14) (τ17.1 15) (τ17.2.1 13) (τ17.2.1 14) (τ17.2.1 15) (τ17.2.1 16) (τ17.2.1 10) (τ17.2.1 27) (τ17.2.1 28) (τ17.2.1 29) (τ17.2.1 30) (τ17.2.1 31) (τ17.2.1 32) (τ17.2.1 33) (τ17.2.1 34) (τ17.2.1 35) (τ17.2.1 36) (τ17.2.1 37) from CJ), (show J_bp (τ17.2.1 44) (τ17.2.1 45) from BP), (show J_nl (τ17.1 3) (τ17.2.1 2) (τ17.2.1 3) (τ17.2.1 4) from NL), (show x16 = 0 → J_rs (τ17.1 35) (τ17.1 7) (τ17.1 6) (τ17.1 36) (τ17.1 37) (τ17.1 5) (τ17.1 8) (τ17.2.1 14) from by (first | (intro z; exfalso; omega) | exact q1_15 | exact q4_15 | exact q7_15 | (intro z; have w := q15_2 z; unfold J_rs; rw [G14, W7]; omega) | (intro z; unfold J_rs; rw [G14, W7]; omega) | (first | (intro z; exfalso; omega) | (intro z; unfold J_rs; omega) | (intro z; unfold J_rs; rw [G14, W7]; omega)) | fail)), (show x16 = 0 → 5 ≤ (τ17.1 35) → 1 ≤ (τ17.1 36) → 0 ≤ τ17.2.1 10 (τ17.2.1 15 (τ17.2.1 14 (τ17.1 7))) from by (first | (intro z; exfalso; omega) | exact q1_16 | exact q4_16 | exact q7_16 | (intro z y y2; exfalso; omega) | (intro z y; have w := q15_2 z; exfalso; omega) | (first | (intro z; exfalso; omega) | (intro z y; exfalso; omega) | exact fun _ => uc | (intro z y y2; exact uc (by omega) (by omega)) | (intro z y y2; exfalso; omega) | (intro z y y2; rw [G10, G14, G15, W7]; exact uc (by omega) (by omega))) | fail)), (show x16 = 0 → (τ17.1 35) = 4 → j_in (τ17.1 36) 1000 (τ17.2.1 54) from by (first | (intro z; exfalso; omega) | exact q1_17 | exact q4_17 | exact q7_17 | (intro z y; rw [show τ17.1 36 = 0 from (q15_2 z).1]; exact j_in0 _ _) | (first | (intro z; exfalso; omega) | (intro z y; exfalso; omega) | exact fun _ => dj) | fail)), (show x16 = 0 → 5 ≤ (τ17.1 35) → J_ip (τ17.1 7) (τ17.1 6) (τ17.1 37) (τ17.2.1 14) (τ17.2.1 15) (τ17.2.1 16) (τ17.2.1 19) from by (first | (intro z; exfalso; omega) | exact q1_18 | exact q4_18 | exact q7_18 | (intro z y; have w := q15_2 z; exfalso; omega) | (intro z y; exact J_ip0 (by rw [W6, G14, W7]; omega)) | (first | (intro z; exfalso; omega) | (intro z y; exfalso; omega) | exact fun _ => ipx | (intro z y; exact ipx (by omega)) | (intro z y; rw [W7, W6, W37, G14, G15, G16, G19]; exact ipx (by omega))) | fail)), (show x16 = 0 → ((τ17.1 35) ≤ 5 → (τ17.1 13) ≤ 60 * (τ17.1 7)) ∧ (τ17.1 13) ≤ 60 * (τ17.1 7) + 60 from by (first | (intro z; exfalso; omega) | exact q1_19 | exact q4_19 | exact q7_19 | (intro z; omega) | fail)), (show x16 = 0 → 6 ≤ (τ17.1 35) → (τ17.1 24) = (τ17.1 7) ∧ J_f (τ17.1 7) (τ17.1 13) (τ17.1 14) (τ17.2.1 13) (τ17.2.1 14) (τ17.2.1 15) (τ17.2.1 16) (τ17.2.1 27) (τ17.2.1 28) (τ17.2.1 29) (τ17.2.1 30) (τ17.2.1 31) (τ17.2.1 32) from by (first | (intro z; exfalso; omega) | exact q1_20 | exact q4_20 | exact q7_20 | (intro z y; have w := q15_2 z; exfalso; omega) | (intro z y; exfalso; omega) | (first | (intro z; exfalso; omega) | (intro z y; exfalso; omega) | exact fun _ => frx | (intro z y; exact frx (by omega)) | (intro z y; have w := frx (by omega); rw [W7, W13, W14, W24, G13, G14, G15, G16, G27, G28, G29, G30, G31, G32]; exact w)) | fail)), (show x16 = 0 → 6 ≤ (τ17.1 35) → J_sp (τ17.1 24) (τ17.1 21) (τ17.1 23) (τ17.1 22) (τ17.2.1 49) (τ17.2.1 51) ∧ ((τ17.1 16) + (τ17.1 21) ≤ 20000) ∧ (¬ (τ17.1 27) = 0 → 1 ≤ (τ17.1 21) ∧ 0 ≤ τ17.2.1 49 ((τ17.1 21) - 1) ∧ τ17.2.1 49 ((τ17.1 21) - 1) < 65536) ∧ ((τ17.1 26) ≤ 1000000) ∧ ((τ17.1 25) ≤ 2 → (τ17.1 27) = 0) from by (first | (intro z; exfalso; omega) | exact q1_21 | exact q4_21 | exact q7_21 | (intro z y; have w := q15_2 z; exfalso; omega) | (intro z y; exfalso; omega) | (first | (intro z; exfalso; omega) | (intro z y; exfalso; omega) | exact fun _ => spx | (intro z y; exact spx (by omega))) | fail)), (show x16 = 0 → (τ17.1 15) ≤ (τ17.1 16) ∧ τ17.2.1 36 (τ17.1 15) ≤ (τ17.1 16) from by (first | (intro z; exfalso; omega) | exact q1_22 | exact q4_22 | exact q7_22 | (intro z; first | exact sux | omega) | fail)), (show x16 = 0 → (τ17.1 9) ≤ (τ17.1 7) from by (first | (intro z; exfalso; omega) | exact q1_23 | exact q4_23 | exact q7_23 | (intro z; omega) | fail)), (show j_rr ((σ.1 5)) (σ.2.1 10) (τ17.2.1 10) from by (first | exact j_rr0 _ _ | exact q1_24 | exact q4_24 | exact q7_24 | (rw [G10]; exact j_rr0 _ _) | fail)), (show j_eq (σ.2.1 36 (σ.1 15)) (σ.2.1 37) (τ17.2.1 37) from CH), (show (τ17.1 12) ≤ (σ.1 12) + 1 from by (first | assumption | omega | (simp only [st_s] <;> omega) | fail)), (show c_Y σ τ17 from by (first | exact c_Y0 _ | exact c_Y_g W4 G11 G20 G22 G25 | exact q1_27 | exact q4_27 | exact q7_27 | exact c_Y_g (by omega) (by rw [g11_τ4]) (by rw [g20_τ4]) (by rw [g22_τ4]) (by rw [g25_τ4]) | exact c_Y_g (by omega) (by rw [g11_τ13]) (by rw [g20_τ13]) (by rw [g22_τ13]) (by rw [g25_τ13]) | exact c_Y_g (by omega) (by rw [g11_τ17]) (by rw [g20_τ17]) (by rw [g22_τ17]) (by rw [g25_τ17]) | fail)), ag⟩
  ·
    refine h92 _ _ ?_
    refine ⟨fun c14 => ?_, fun c14 => ?_⟩
    ·
      exact ⟨hT, (show 0 ≤ 4 ∧ 4 ≤ 19 from by (first | assumption | omega | (simp only [st_s] <;> omega) | fail)), (show J_ht (σ.1 3) (σ.2.1 2) (σ.2.1 3) (σ.2.1 5) (σ.2.1 6) from HT), (show J_mn (σ.1 3) (σ.1 5) ((σ.1 7) + 1) (σ.2.1 4) from MN), (show J_rks (σ.1 5) (σ.1 4) (σ.2.1 10) (σ.2.1 11) from RKS), (show J_vs (σ.1 8) (σ.1 5) (σ.2.1 20) from VS), (show J_vs (σ.1 6) (σ.1 5) (σ.2.1 15) from TX), (show J_va (σ.1 8) 1000 (σ.2.1 18) (σ.2.1 20) from VA), (show J_mk (σ.1 11) (σ.1 8) (σ.1 9) (σ.1 10) (σ.2.1 25) from MK), (show J_sc (σ.1 7) (σ.1 9) (σ.2.1 13) (σ.2.1 14) (σ.2.1 15) (σ.2.1 16) (σ.2.1 22) (σ.2.1 19) from SC), (show J_ff (σ.1 5) (σ.1 7) (σ.2.1 9) (σ.2.1 13) (σ.2.1 14) (σ.2.1 15) from FF), (show ∀ s : Int, σ.2.1 26 s ≤ (σ.1 12) from MT), (show J_all (σ.1 7) (σ.1 6) (σ.1 13) (σ.1 14) (σ.1 15) (σ.2.1 13) (σ.2.1 14) (σ.2.1 15) (σ.2.1 16) (σ.2.1 10) (σ.2.1 27) (σ.2.1 28) (σ.2.1 29) (σ.2.1 30) (σ.2.1 31) (σ.2.1 32) (σ.2.1 33) (σ.2.1 34) (σ.2.1 35) (σ.2.1 36) (σ.2.1 37) from CJ), (show J_bp (σ.2.1 44) (σ.2.1 45) from BP), (show J_nl (σ.1 3) (σ.2.1 2) (σ.2.1 3) (σ.2.1 4) from NL), (show 4 = 0 → J_rs (σ.1 35) (σ.1 7) (σ.1 6) (σ.1 36) (σ.1 37) (σ.1 5) (σ.1 8) (σ.2.1 14) from by (first | (intro z; exfalso; omega) | exact q1_15 | exact q4_15 | exact q7_15 | (intro z; have w := q15_2 z; unfold J_rs; rw [G14, W7]; omega) | (intro z; unfold J_rs; rw [G14, W7]; omega) | (first | (intro z; exfalso; omega) | (intro z; unfold J_rs; omega) | (intro z; unfold J_rs; rw [G14, W7]; omega)) | fail)), (show 4 = 0 → 5 ≤ (σ.1 35) → 1 ≤ (σ.1 36) → 0 ≤ σ.2.1 10 (σ.2.1 15 (σ.2.1 14 (σ.1 7))) from by (first | (intro z; exfalso; omega) | exact q1_16 | exact q4_16 | exact q7_16 | (intro z y y2; exfalso; omega) | (intro z y; have w := q15_2 z; exfalso; omega) | (first | (intro z; exfalso; omega) | (intro z y; exfalso; omega) | exact fun _ => uc | (intro z y y2; exact uc (by omega) (by omega)) | (intro z y y2; exfalso; omega) | (intro z y y2; rw [G10, G14, G15, W7]; exact uc (by omega) (by omega))) | fail)), (show 4 = 0 → (σ.1 35) = 4 → j_in (σ.1 36) 1000 (σ.2.1 54) from by (first | (intro z; exfalso; omega) | exact q1_17 | exact q4_17 | exact q7_17 | (intro z y; rw [show τ17.1 36 = 0 from (q15_2 z).1]; exact j_in0 _ _) | (first | (intro z; exfalso; omega) | (intro z y; exfalso; omega) | exact fun _ => dj) | fail)), (show 4 = 0 → 5 ≤ (σ.1 35) → J_ip (σ.1 7) (σ.1 6) (σ.1 37) (σ.2.1 14) (σ.2.1 15) (σ.2.1 16) (σ.2.1 19) from by (first | (intro z; exfalso; omega) | exact q1_18 | exact q4_18 | exact q7_18 | (intro z y; have w := q15_2 z; exfalso; omega) | (intro z y; exact J_ip0 (by rw [W6, G14, W7]; omega)) | (first | (intro z; exfalso; omega) | (intro z y; exfalso; omega) | exact fun _ => ipx | (intro z y; exact ipx (by omega)) | (intro z y; rw [W7, W6, W37, G14, G15, G16, G19]; exact ipx (by omega))) | fail)), (show 4 = 0 → ((σ.1 35) ≤ 5 → (σ.1 13) ≤ 60 * (σ.1 7)) ∧ (σ.1 13) ≤ 60 * (σ.1 7) + 60 from by (first | (intro z; exfalso; omega) | exact q1_19 | exact q4_19 | exact q7_19 | (intro z; omega) | fail)), (show 4 = 0 → 6 ≤ (σ.1 35) → (σ.1 24) = (σ.1 7) ∧ J_f (σ.1 7) (σ.1 13) (σ.1 14) (σ.2.1 13) (σ.2.1 14) (σ.2.1 15) (σ.2.1 16) (σ.2.1 27) (σ.2.1 28) (σ.2.1 29) (σ.2.1 30) (σ.2.1 31) (σ.2.1 32) from by (first | (intro z; exfalso; omega) | exact q1_20 | exact q4_20 | exact q7_20 | (intro z y; have w := q15_2 z; exfalso; omega) | (intro z y; exfalso; omega) | (first | (intro z; exfalso; omega) | (intro z y; exfalso; omega) | exact fun _ => frx | (intro z y; exact frx (by omega)) | (intro z y; have w := frx (by omega); rw [W7, W13, W14, W24, G13, G14, G15, G16, G27, G28, G29, G30, G31, G32]; exact w)) | fail)), (show 4 = 0 → 6 ≤ (σ.1 35) → J_sp (σ.1 24) (σ.1 21) (σ.1 23) (σ.1 22) (σ.2.1 49) (σ.2.1 51) ∧ ((σ.1 16) + (σ.1 21) ≤ 20000) ∧ (¬ (σ.1 27) = 0 → 1 ≤ (σ.1 21) ∧ 0 ≤ σ.2.1 49 ((σ.1 21) - 1) ∧ σ.2.1 49 ((σ.1 21) - 1) < 65536) ∧ ((σ.1 26) ≤ 1000000) ∧ ((σ.1 25) ≤ 2 → (σ.1 27) = 0) from by (first | (intro z; exfalso; omega) | exact q1_21 | exact q4_21 | exact q7_21 | (intro z y; have w := q15_2 z; exfalso; omega) | (intro z y; exfalso; omega) | (first | (intro z; exfalso; omega) | (intro z y; exfalso; omega) | exact fun _ => spx | (intro z y; exact spx (by omega))) | fail)), (show 4 = 0 → (σ.1 15) ≤ (σ.1 16) ∧ σ.2.1 36 (σ.1 15) ≤ (σ.1 16) from by (first | (intro z; exfalso; omega) | exact q1_22 | exact q4_22 | exact q7_22 | (intro z; first | exact sux | omega) | fail)), (show 4 = 0 → (σ.1 9) ≤ (σ.1 7) from by (first | (intro z; exfalso; omega) | exact q1_23 | exact q4_23 | exact q7_23 | (intro z; omega) | fail)), (show j_rr ((σ.1 5)) (σ.2.1 10) (σ.2.1 10) from by (first | exact j_rr0 _ _ | exact q1_24 | exact q4_24 | exact q7_24 | (rw [G10]; exact j_rr0 _ _) | fail)), (show j_eq (σ.2.1 36 (σ.1 15)) (σ.2.1 37) (σ.2.1 37) from CH), (show (σ.1 12) ≤ (σ.1 12) + 1 from by (first | assumption | omega | (simp only [st_s] <;> omega) | fail)), (show c_Y σ σ from by (first | exact c_Y0 _ | exact c_Y_g W4 G11 G20 G22 G25 | exact q1_27 | exact q4_27 | exact q7_27 | exact c_Y_g (by omega) (by rw [g11_τ4]) (by rw [g20_τ4]) (by rw [g22_τ4]) (by rw [g25_τ4]) | exact c_Y_g (by omega) (by rw [g11_τ13]) (by rw [g20_τ13]) (by rw [g22_τ13]) (by rw [g25_τ13]) | exact c_Y_g (by omega) (by rw [g11_τ17]) (by rw [g20_τ17]) (by rw [g22_τ17]) (by rw [g25_τ17]) | fail)), ag⟩
    ·
      refine ⟨_, K2_X7_declaration hT, ?_⟩
      intro x16 τ17 r_x16 hn_τ17 hf_τ17 hq
      obtain ⟨hT, q15_1, q15_2⟩ := hq
      replace q15_1 : 0 ≤ x16 ∧ x16 ≤ 19 := q15_1
      replace q15_2 : x16 = 0 → (τ17.1 36) = 0 ∧ 2 ≤ (τ17.1 35) ∧ (τ17.1 35) ≤ 4 := q15_2
      replace ag : c_ag σ τ17 := ag_r ag hf_τ17 rfl rfl
      have w3_τ17 : τ17.1 3 = σ.1 3 := hf_τ17.1 3 (by decide)
      have w4_τ17 : τ17.1 4 = σ.1 4 := hf_τ17.1 4 (by decide)
      have w5_τ17 : τ17.1 5 = σ.1 5 := hf_τ17.1 5 (by decide)
      have w6_τ17 : τ17.1 6 = σ.1 6 := hf_τ17.1 6 (by decide)
      have w7_τ17 : τ17.1 7 = σ.1 7 := hf_τ17.1 7 (by decide)
      have w8_τ17 : τ17.1 8 = σ.1 8 := hf_τ17.1 8 (by decide)
      have w9_τ17 : τ17.1 9 = σ.1 9 := hf_τ17.1 9 (by decide)
      have w10_τ17 : τ17.1 10 = σ.1 10 := hf_τ17.1 10 (by decide)
      have w11_τ17 : τ17.1 11 = σ.1 11 := hf_τ17.1 11 (by decide)
      have w12_τ17 : τ17.1 12 = σ.1 12 := hf_τ17.1 12 (by decide)
      have w13_τ17 : τ17.1 13 = σ.1 13 := hf_τ17.1 13 (by decide)
      have w14_τ17 : τ17.1 14 = σ.1 14 := hf_τ17.1 14 (by decide)
      have w15_τ17 : τ17.1 15 = σ.1 15 := hf_τ17.1 15 (by decide)
      have w16_τ17 : τ17.1 16 = σ.1 16 := hf_τ17.1 16 (by decide)
      have w21_τ17 : τ17.1 21 = σ.1 21 := hf_τ17.1 21 (by decide)
      have w22_τ17 : τ17.1 22 = σ.1 22 := hf_τ17.1 22 (by decide)
      have w23_τ17 : τ17.1 23 = σ.1 23 := hf_τ17.1 23 (by decide)
      have w24_τ17 : τ17.1 24 = σ.1 24 := hf_τ17.1 24 (by decide)
      have w25_τ17 : τ17.1 25 = σ.1 25 := hf_τ17.1 25 (by decide)
      have w26_τ17 : τ17.1 26 = σ.1 26 := hf_τ17.1 26 (by decide)
      have w27_τ17 : τ17.1 27 = σ.1 27 := hf_τ17.1 27 (by decide)
      have w37_τ17 : τ17.1 37 = σ.1 37 := hf_τ17.1 37 (by decide)
      have g2_τ17 : τ17.2.1 2 = σ.2.1 2 := hf_τ17.2.1 2 (by decide)
      have g3_τ17 : τ17.2.1 3 = σ.2.1 3 := hf_τ17.2.1 3 (by decide)
      have g4_τ17 : τ17.2.1 4 = σ.2.1 4 := hf_τ17.2.1 4 (by decide)
      have g5_τ17 : τ17.2.1 5 = σ.2.1 5 := hf_τ17.2.1 5 (by decide)
      have g6_τ17 : τ17.2.1 6 = σ.2.1 6 := hf_τ17.2.1 6 (by decide)
      have g8_τ17 : τ17.2.1 8 = σ.2.1 8 := hf_τ17.2.1 8 (by decide)
      have g9_τ17 : τ17.2.1 9 = σ.2.1 9 := hf_τ17.2.1 9 (by decide)
      have g10_τ17 : τ17.2.1 10 = σ.2.1 10 := hf_τ17.2.1 10 (by decide)
      have g11_τ17 : τ17.2.1 11 = σ.2.1 11 := hf_τ17.2.1 11 (by decide)
      have g13_τ17 : τ17.2.1 13 = σ.2.1 13 := hf_τ17.2.1 13 (by decide)
      have g14_τ17 : τ17.2.1 14 = σ.2.1 14 := hf_τ17.2.1 14 (by decide)
      have g15_τ17 : τ17.2.1 15 = σ.2.1 15 := hf_τ17.2.1 15 (by decide)
      have g16_τ17 : τ17.2.1 16 = σ.2.1 16 := hf_τ17.2.1 16 (by decide)
      have g18_τ17 : τ17.2.1 18 = σ.2.1 18 := hf_τ17.2.1 18 (by decide)
      have g19_τ17 : τ17.2.1 19 = σ.2.1 19 := hf_τ17.2.1 19 (by decide)
      have g20_τ17 : τ17.2.1 20 = σ.2.1 20 := hf_τ17.2.1 20 (by decide)
      have g22_τ17 : τ17.2.1 22 = σ.2.1 22 := hf_τ17.2.1 22 (by decide)
      have g23_τ17 : τ17.2.1 23 = σ.2.1 23 := hf_τ17.2.1 23 (by decide)
      have g24_τ17 : τ17.2.1 24 = σ.2.1 24 := hf_τ17.2.1 24 (by decide)
      have g25_τ17 : τ17.2.1 25 = σ.2.1 25 := hf_τ17.2.1 25 (by decide)
      have g26_τ17 : τ17.2.1 26 = σ.2.1 26 := hf_τ17.2.1 26 (by decide)
      have g27_τ17 : τ17.2.1 27 = σ.2.1 27 := hf_τ17.2.1 27 (by decide)
      have g28_τ17 : τ17.2.1 28 = σ.2.1 28 := hf_τ17.2.1 28 (by decide)
      have g29_τ17 : τ17.2.1 29 = σ.2.1 29 := hf_τ17.2.1 29 (by decide)
      have g30_τ17 : τ17.2.1 30 = σ.2.1 30 := hf_τ17.2.1 30 (by decide)
      have g31_τ17 : τ17.2.1 31 = σ.2.1 31 := hf_τ17.2.1 31 (by decide)
      have g32_τ17 : τ17.2.1 32 = σ.2.1 32 := hf_τ17.2.1 32 (by decide)
      have g33_τ17 : τ17.2.1 33 = σ.2.1 33 := hf_τ17.2.1 33 (by decide)
      have g34_τ17 : τ17.2.1 34 = σ.2.1 34 := hf_τ17.2.1 34 (by decide)
      have g35_τ17 : τ17.2.1 35 = σ.2.1 35 := hf_τ17.2.1 35 (by decide)
      have g36_τ17 : τ17.2.1 36 = σ.2.1 36 := hf_τ17.2.1 36 (by decide)
      have g37_τ17 : τ17.2.1 37 = σ.2.1 37 := hf_τ17.2.1 37 (by decide)
      have g44_τ17 : τ17.2.1 44 = σ.2.1 44 := hf_τ17.2.1 44 (by decide)
      have g45_τ17 : τ17.2.1 45 = σ.2.1 45 := hf_τ17.2.1 45 (by decide)
      have g49_τ17 : τ17.2.1 49 = σ.2.1 49 := hf_τ17.2.1 49 (by decide)
      have g51_τ17 : τ17.2.1 51 = σ.2.1 51 := hf_τ17.2.1 51 (by decide)
      have g54_τ17 : τ17.2.1 54 = σ.2.1 54 := hf_τ17.2.1 54 (by decide)
      have W3 : τ17.1 3 = σ.1 3 := by omega
      have W4 : τ17.1 4 = σ.1 4 := by omega
      have W5 : τ17.1 5 = σ.1 5 := by omega
      have W6 : τ17.1 6 = σ.1 6 := by omega
      have W7 : τ17.1 7 = σ.1 7 := by omega
      have W15 : τ17.1 15 = σ.1 15 := by omega
      have W16 : τ17.1 16 = σ.1 16 := by omega
      have G2 : τ17.2.1 2 = σ.2.1 2 := (g2_τ17).trans G2
      have G3 : τ17.2.1 3 = σ.2.1 3 := (g3_τ17).trans G3
      have G4 : τ17.2.1 4 = σ.2.1 4 := (g4_τ17).trans G4
      have G5 : τ17.2.1 5 = σ.2.1 5 := (g5_τ17).trans G5
      have G6 : τ17.2.1 6 = σ.2.1 6 := (g6_τ17).trans G6
      have G8 : τ17.2.1 8 = σ.2.1 8 := (g8_τ17).trans G8
      have G9 : τ17.2.1 9 = σ.2.1 9 := (g9_τ17).trans G9
      have G10 : τ17.2.1 10 = σ.2.1 10 := (g10_τ17).trans G10
      have G11 : τ17.2.1 11 = σ.2.1 11 := (g11_τ17).trans G11
      have G13 : τ17.2.1 13 = σ.2.1 13 := (g13_τ17).trans G13
      have G14 : τ17.2.1 14 = σ.2.1 14 := (g14_τ17).trans G14
      have G15 : τ17.2.1 15 = σ.2.1 15 := (g15_τ17).trans G15
      have G16 : τ17.2.1 16 = σ.2.1 16 := (g16_τ17).trans G16
      have G20 : τ17.2.1 20 = σ.2.1 20 := (g20_τ17).trans G20
      have G22 : τ17.2.1 22 = σ.2.1 22 := (g22_τ17).trans G22
      have G23 : τ17.2.1 23 = σ.2.1 23 := (g23_τ17).trans G23
      have G24 : τ17.2.1 24 = σ.2.1 24 := (g24_τ17).trans G24
      have G33 : τ17.2.1 33 = σ.2.1 33 := (g33_τ17).trans G33
      have G34 : τ17.2.1 34 = σ.2.1 34 := (g34_τ17).trans G34
      have G35 : τ17.2.1 35 = σ.2.1 35 := (g35_τ17).trans G35
      have G36 : τ17.2.1 36 = σ.2.1 36 := (g36_τ17).trans G36
      have G37 : τ17.2.1 37 = σ.2.1 37 := (g37_τ17).trans G37
      have G44 : τ17.2.1 44 = σ.2.1 44 := (g44_τ17).trans G44
      have G45 : τ17.2.1 45 = σ.2.1 45 := (g45_τ17).trans G45
      have G49 : τ17.2.1 49 = σ.2.1 49 := (g49_τ17).trans G49
      have G51 : τ17.2.1 51 = σ.2.1 51 := (g51_τ17).trans G51
      have G54 : τ17.2.1 54 = σ.2.1 54 := (g54_τ17).trans G54
      have y14_7_τ17 : τ17.2.1 14 (τ17.1 7) = (σ.2.1 14) (σ.1 7) := by rw [g14_τ17, w7_τ17]
      have y36_15_τ17 : τ17.2.1 36 (τ17.1 15) = (σ.2.1 36) (σ.1 15) := by rw [g36_τ17, w15_τ17]
      have HT : J_ht (τ17.1 3) (τ17.2.1 2) (τ17.2.1 3) (τ17.2.1 5) (τ17.2.1 6) := by rw [show (J_ht (τ17.1 3) (τ17.2.1 2) (τ17.2.1 3) (τ17.2.1 5) (τ17.2.1 6)) = (J_ht (σ.1 3) (σ.2.1 2) (σ.2.1 3) (σ.2.1 5) (σ.2.1 6)) from by rw [w3_τ17, g2_τ17, g3_τ17, g5_τ17, g6_τ17]]; exact HT
      have NL : J_nl (τ17.1 3) (τ17.2.1 2) (τ17.2.1 3) (τ17.2.1 4) := by rw [show (J_nl (τ17.1 3) (τ17.2.1 2) (τ17.2.1 3) (τ17.2.1 4)) = (J_nl (σ.1 3) (σ.2.1 2) (σ.2.1 3) (σ.2.1 4)) from by rw [w3_τ17, g2_τ17, g3_τ17, g4_τ17]]; exact NL
      have MN : J_mn (τ17.1 3) (τ17.1 5) ((τ17.1 7) + 1) (τ17.2.1 4) := by rw [show (J_mn (τ17.1 3) (τ17.1 5) ((τ17.1 7) + 1) (τ17.2.1 4)) = (J_mn (σ.1 3) (σ.1 5) ((σ.1 7) + 1) (σ.2.1 4)) from by rw [w3_τ17, w5_τ17, w7_τ17, g4_τ17]]; exact MN
      have VA : J_va (τ17.1 8) 1000 (τ17.2.1 18) (τ17.2.1 20) := by rw [show (J_va (τ17.1 8) 1000 (τ17.2.1 18) (τ17.2.1 20)) = (J_va (σ.1 8) 1000 (σ.2.1 18) (σ.2.1 20)) from by rw [w8_τ17, g18_τ17, g20_τ17]]; exact VA
      have SC : J_sc (τ17.1 7) (τ17.1 9) (τ17.2.1 13) (τ17.2.1 14) (τ17.2.1 15) (τ17.2.1 16) (τ17.2.1 22) (τ17.2.1 19) := by rw [show (J_sc (τ17.1 7) (τ17.1 9) (τ17.2.1 13) (τ17.2.1 14) (τ17.2.1 15) (τ17.2.1 16) (τ17.2.1 22) (τ17.2.1 19)) = (J_sc (σ.1 7) (σ.1 9) (σ.2.1 13) (σ.2.1 14) (σ.2.1 15) (σ.2.1 16) (σ.2.1 22) (σ.2.1 19)) from by rw [w7_τ17, w9_τ17, g13_τ17, g14_τ17, g15_τ17, g16_τ17, g19_τ17, g22_τ17]]; exact SC
      have MK : J_mk (τ17.1 11) (τ17.1 8) (τ17.1 9) (τ17.1 10) (τ17.2.1 25) := by rw [show (J_mk (τ17.1 11) (τ17.1 8) (τ17.1 9) (τ17.1 10) (τ17.2.1 25)) = (J_mk (σ.1 11) (σ.1 8) (σ.1 9) (σ.1 10) (σ.2.1 25)) from by rw [w8_τ17, w9_τ17, w10_τ17, w11_τ17, g25_τ17]]; exact MK
      have FF : J_ff (τ17.1 5) (τ17.1 7) (τ17.2.1 9) (τ17.2.1 13) (τ17.2.1 14) (τ17.2.1 15) := by rw [show (J_ff (τ17.1 5) (τ17.1 7) (τ17.2.1 9) (τ17.2.1 13) (τ17.2.1 14) (τ17.2.1 15)) = (J_ff (σ.1 5) (σ.1 7) (σ.2.1 9) (σ.2.1 13) (σ.2.1 14) (σ.2.1 15)) from by rw [w5_τ17, w7_τ17, g9_τ17, g13_τ17, g14_τ17, g15_τ17]]; exact FF
      have MT : ∀ s : Int, τ17.2.1 26 s ≤ (τ17.1 12) := by rw [show (∀ s : Int, τ17.2.1 26 s ≤ (τ17.1 12)) = (∀ s : Int, σ.2.1 26 s ≤ (σ.1 12)) from by rw [w12_τ17, g26_τ17]]; exact MT
      have VS : J_vs (τ17.1 8) (τ17.1 5) (τ17.2.1 20) := by rw [show (J_vs (τ17.1 8) (τ17.1 5) (τ17.2.1 20)) = (J_vs (σ.1 8) (σ.1 5) (σ.2.1 20)) from by rw [w5_τ17, w8_τ17, g20_τ17]]; exact VS
      have TX : J_vs (τ17.1 6) (τ17.1 5) (τ17.2.1 15) := by rw [show (J_vs (τ17.1 6) (τ17.1 5) (τ17.2.1 15)) = (J_vs (σ.1 6) (σ.1 5) (σ.2.1 15)) from by rw [w5_τ17, w6_τ17, g15_τ17]]; exact TX
      have RKS : J_rks (τ17.1 5) (τ17.1 4) (τ17.2.1 10) (τ17.2.1 11) := by rw [show (J_rks (τ17.1 5) (τ17.1 4) (τ17.2.1 10) (τ17.2.1 11)) = (J_rks (σ.1 5) (σ.1 4) (σ.2.1 10) (σ.2.1 11)) from by rw [w4_τ17, w5_τ17, g10_τ17, g11_τ17]]; exact RKS
      have CJ : J_all (τ17.1 7) (τ17.1 6) (τ17.1 13) (τ17.1 14) (τ17.1 15) (τ17.2.1 13) (τ17.2.1 14) (τ17.2.1 15) (τ17.2.1 16) (τ17.2.1 10) (τ17.2.1 27) (τ17.2.1 28) (τ17.2.1 29) (τ17.2.1 30) (τ17.2.1 31) (τ17.2.1 32) (τ17.2.1 33) (τ17.2.1 34) (τ17.2.1 35) (τ17.2.1 36) (τ17.2.1 37) := by rw [show (J_all (τ17.1 7) (τ17.1 6) (τ17.1 13) (τ17.1 14) (τ17.1 15) (τ17.2.1 13) (τ17.2.1 14) (τ17.2.1 15) (τ17.2.1 16) (τ17.2.1 10) (τ17.2.1 27) (τ17.2.1 28) (τ17.2.1 29) (τ17.2.1 30) (τ17.2.1 31) (τ17.2.1 32) (τ17.2.1 33) (τ17.2.1 34) (τ17.2.1 35) (τ17.2.1 36) (τ17.2.1 37)) = (J_all (σ.1 7) (σ.1 6) (σ.1 13) (σ.1 14) (σ.1 15) (σ.2.1 13) (σ.2.1 14) (σ.2.1 15) (σ.2.1 16) (σ.2.1 10) (σ.2.1 27) (σ.2.1 28) (σ.2.1 29) (σ.2.1 30) (σ.2.1 31) (σ.2.1 32) (σ.2.1 33) (σ.2.1 34) (σ.2.1 35) (σ.2.1 36) (σ.2.1 37)) from by rw [w6_τ17, w7_τ17, w13_τ17, w14_τ17, w15_τ17, g10_τ17, g13_τ17, g14_τ17, g15_τ17, g16_τ17, g27_τ17, g28_τ17, g29_τ17, g30_τ17, g31_τ17, g32_τ17, g33_τ17, g34_τ17, g35_τ17, g36_τ17, g37_τ17]]; exact CJ
      have BP : J_bp (τ17.2.1 44) (τ17.2.1 45) := by rw [show (J_bp (τ17.2.1 44) (τ17.2.1 45)) = (J_bp (σ.2.1 44) (σ.2.1 45)) from by rw [g44_τ17, g45_τ17]]; exact BP
      have CH : j_eq (σ.2.1 36 (σ.1 15)) (σ.2.1 37) (τ17.2.1 37) := by rw [show (j_eq (σ.2.1 36 (σ.1 15)) (σ.2.1 37) (τ17.2.1 37)) = (j_eq (σ.2.1 36 (σ.1 15)) (σ.2.1 37) (σ.2.1 37)) from by rw [g37_τ17]]; exact CH
      have A2 : ∀ j, 0 ≤ τ17.2.1 2 j ∧ τ17.2.1 2 j ≤ 65535 := fun j => hT.2 2 j
      have A3 : ∀ j, 0 ≤ τ17.2.1 3 j ∧ τ17.2.1 3 j ≤ 30000 := fun j => hT.2 3 j
      have A4 : ∀ j, (-1000) ≤ τ17.2.1 4 j ∧ τ17.2.1 4 j ≤ 1499 := fun j => hT.2 4 j
      have A5 : ∀ j, 0 ≤ τ17.2.1 5 j ∧ τ17.2.1 5 j ≤ 2500 := fun j => hT.2 5 j
      have A6 : ∀ j, 0 ≤ τ17.2.1 6 j ∧ τ17.2.1 6 j ≤ 2500 := fun j => hT.2 6 j
      have A8 : ∀ j, 0 ≤ τ17.2.1 8 j ∧ τ17.2.1 8 j ≤ 1 := fun j => hT.2 8 j
      have A9 : ∀ j, (-1) ≤ τ17.2.1 9 j ∧ τ17.2.1 9 j ≤ 1499 := fun j => hT.2 9 j
      have A10 : ∀ j, (-1) ≤ τ17.2.1 10 j ∧ τ17.2.1 10 j ≤ 99 := fun j => hT.2 10 j
      have A11 : ∀ j, 0 ≤ τ17.2.1 11 j ∧ τ17.2.1 11 j ≤ 999 := fun j => hT.2 11 j
      have A13 : ∀ j, 0 ≤ τ17.2.1 13 j ∧ τ17.2.1 13 j ≤ 4 := fun j => hT.2 13 j
      have A14 : ∀ j, 0 ≤ τ17.2.1 14 j ∧ τ17.2.1 14 j ≤ 30000 := fun j => hT.2 14 j
      have A15 : ∀ j, 0 ≤ τ17.2.1 15 j ∧ τ17.2.1 15 j ≤ 999 := fun j => hT.2 15 j
      have A16 : ∀ j, (-1) ≤ τ17.2.1 16 j ∧ τ17.2.1 16 j ≤ 1499 := fun j => hT.2 16 j
      have A18 : ∀ j, 0 ≤ τ17.2.1 18 j ∧ τ17.2.1 18 j ≤ 1 := fun j => hT.2 18 j
      have A19 : ∀ j, (-1) ≤ τ17.2.1 19 j ∧ τ17.2.1 19 j ≤ 1499 := fun j => hT.2 19 j
      have A20 : ∀ j, 0 ≤ τ17.2.1 20 j ∧ τ17.2.1 20 j ≤ 999 := fun j => hT.2 20 j
      have A22 : ∀ j, 0 ≤ τ17.2.1 22 j ∧ τ17.2.1 22 j ≤ 1499 := fun j => hT.2 22 j
      have A23 : ∀ j, 0 ≤ τ17.2.1 23 j ∧ τ17.2.1 23 j ≤ 999 := fun j => hT.2 23 j
      have A24 : ∀ j, 0 ≤ τ17.2.1 24 j ∧ τ17.2.1 24 j ≤ 999 := fun j => hT.2 24 j
      have A26 : ∀ j, (-2147483648) ≤ τ17.2.1 26 j ∧ τ17.2.1 26 j ≤ 2147483647 := fun j => hT.2 26 j
      have A27 : ∀ j, 0 ≤ τ17.2.1 27 j ∧ τ17.2.1 27 j ≤ 90000 := fun j => hT.2 27 j
      have A28 : ∀ j, 0 ≤ τ17.2.1 28 j ∧ τ17.2.1 28 j ≤ 60 := fun j => hT.2 28 j
      have A29 : ∀ j, 0 ≤ τ17.2.1 29 j ∧ τ17.2.1 29 j ≤ 1499 := fun j => hT.2 29 j
      have A30 : ∀ j, 0 ≤ τ17.2.1 30 j ∧ τ17.2.1 30 j ≤ 20000 := fun j => hT.2 30 j
      have A31 : ∀ j, 0 ≤ τ17.2.1 31 j ∧ τ17.2.1 31 j ≤ 20000 := fun j => hT.2 31 j
      have A32 : ∀ j, 0 ≤ τ17.2.1 32 j ∧ τ17.2.1 32 j ≤ 999999 := fun j => hT.2 32 j
      have A33 : ∀ j, 0 ≤ τ17.2.1 33 j ∧ τ17.2.1 33 j ≤ 20000 := fun j => hT.2 33 j
      have A34 : ∀ j, 0 ≤ τ17.2.1 34 j ∧ τ17.2.1 34 j ≤ 20000 := fun j => hT.2 34 j
      have A35 : ∀ j, 0 ≤ τ17.2.1 35 j ∧ τ17.2.1 35 j ≤ 1499 := fun j => hT.2 35 j
      have A36 : ∀ j, 0 ≤ τ17.2.1 36 j ∧ τ17.2.1 36 j ≤ 20000 := fun j => hT.2 36 j
      have A37 : ∀ j, 0 ≤ τ17.2.1 37 j ∧ τ17.2.1 37 j ≤ 19999 := fun j => hT.2 37 j
      have A44 : ∀ j, 0 ≤ τ17.2.1 44 j ∧ τ17.2.1 44 j ≤ 42000 := fun j => hT.2 44 j
      have A45 : ∀ j, 0 ≤ τ17.2.1 45 j ∧ τ17.2.1 45 j ≤ 1000 := fun j => hT.2 45 j
      have A49 : ∀ j, (-300) ≤ τ17.2.1 49 j ∧ τ17.2.1 49 j ≤ 67035 := fun j => hT.2 49 j
      have A51 : ∀ j, 0 ≤ τ17.2.1 51 j ∧ τ17.2.1 51 j ≤ 1499 := fun j => hT.2 51 j
      have A54 : ∀ j, 0 ≤ τ17.2.1 54 j ∧ τ17.2.1 54 j ≤ 999 := fun j => hT.2 54 j
      have v3 : 0 ≤ τ17.1 3 ∧ τ17.1 3 ≤ 2500 := hT.1 3
      have v4 : 0 ≤ τ17.1 4 ∧ τ17.1 4 ≤ 100 := hT.1 4
      have v5 : 0 ≤ τ17.1 5 ∧ τ17.1 5 ≤ 1000 := hT.1 5
      have v6 : 0 ≤ τ17.1 6 ∧ τ17.1 6 ≤ 30000 := hT.1 6
      have v7 : 0 ≤ τ17.1 7 ∧ τ17.1 7 ≤ 1500 := hT.1 7
      have v8 : 0 ≤ τ17.1 8 ∧ τ17.1 8 ≤ 1000 := hT.1 8
      have v9 : 0 ≤ τ17.1 9 ∧ τ17.1 9 ≤ 1500 := hT.1 9
      have v10 : 0 ≤ τ17.1 10 ∧ τ17.1 10 ≤ 1000 := hT.1 10
      have v11 : 0 ≤ τ17.1 11 ∧ τ17.1 11 ≤ 50 := hT.1 11
      have v12 : (-2147483648) ≤ τ17.1 12 ∧ τ17.1 12 ≤ 2147483647 := hT.1 12
      have v13 : 0 ≤ τ17.1 13 ∧ τ17.1 13 ≤ 90000 := hT.1 13
      have v14 : 0 ≤ τ17.1 14 ∧ τ17.1 14 ≤ 20000 := hT.1 14
      have v15 : 0 ≤ τ17.1 15 ∧ τ17.1 15 ≤ 20000 := hT.1 15
      have v16 : 0 ≤ τ17.1 16 ∧ τ17.1 16 ≤ 20000 := hT.1 16
      have v21 : 0 ≤ τ17.1 21 ∧ τ17.1 21 ≤ 20000 := hT.1 21
      have v22 : 0 ≤ τ17.1 22 ∧ τ17.1 22 ≤ 300 := hT.1 22
      have v23 : 0 ≤ τ17.1 23 ∧ τ17.1 23 ≤ 300 := hT.1 23
      have v24 : 0 ≤ τ17.1 24 ∧ τ17.1 24 ≤ 1499 := hT.1 24
      have v25 : 0 ≤ τ17.1 25 ∧ τ17.1 25 ≤ 3 := hT.1 25
      have v26 : 0 ≤ τ17.1 26 ∧ τ17.1 26 ≤ 5000010 := hT.1 26
      have v27 : 0 ≤ τ17.1 27 ∧ τ17.1 27 ≤ 1 := hT.1 27
      have v35 : 0 ≤ τ17.1 35 ∧ τ17.1 35 ≤ 7 := hT.1 35
      have v36 : 0 ≤ τ17.1 36 ∧ τ17.1 36 ≤ 1001 := hT.1 36
      have v37 : 0 ≤ τ17.1 37 ∧ τ17.1 37 ≤ 4 := hT.1 37
      have a14_7 : 0 ≤ τ17.2.1 14 (τ17.1 7) ∧ τ17.2.1 14 (τ17.1 7) ≤ 30000 := hT.2 14 _
      have a36_15 : 0 ≤ τ17.2.1 36 (τ17.1 15) ∧ τ17.2.1 36 (τ17.1 15) ≤ 20000 := hT.2 36 _
      have av13 : σ.1 13 ≤ τ17.1 13 := ag.1 13 (by decide)
      have av14 : σ.1 14 ≤ τ17.1 14 := ag.1 14 (by decide)
      exact ⟨hT, (show 0 ≤ x16 ∧ x16 ≤ 19 from by (first | assumption | omega | (simp only [st_s] <;> omega) | fail)), (show J_ht (τ17.1 3) (τ17.2.1 2) (τ17.2.1 3) (τ17.2.1 5) (τ17.2.1 6) from HT), (show J_mn (τ17.1 3) (τ17.1 5) ((τ17.1 7) + 1) (τ17.2.1 4) from MN), (show J_rks (τ17.1 5) (τ17.1 4) (τ17.2.1 10) (τ17.2.1 11) from RKS), (show J_vs (τ17.1 8) (τ17.1 5) (τ17.2.1 20) from VS), (show J_vs (τ17.1 6) (τ17.1 5) (τ17.2.1 15) from TX), (show J_va (τ17.1 8) 1000 (τ17.2.1 18) (τ17.2.1 20) from VA), (show J_mk (τ17.1 11) (τ17.1 8) (τ17.1 9) (τ17.1 10) (τ17.2.1 25) from MK), (show J_sc (τ17.1 7) (τ17.1 9) (τ17.2.1 13) (τ17.2.1 14) (τ17.2.1 15) (τ17.2.1 16) (τ17.2.1 22) (τ17.2.1 19) from SC), (show J_ff (τ17.1 5) (τ17.1 7) (τ17.2.1 9) (τ17.2.1 13) (τ17.2.1 14) (τ17.2.1 15) from FF), (show ∀ s : Int, τ17.2.1 26 s ≤ (τ17.1 12) from MT), (show J_all (τ17.1 7) (τ17.1 6) (τ17.1 13) (τ17.1 14) (τ17.1 15) (τ17.2.1 13) (τ17.2.1 14) (τ17.2.1 15) (τ17.2.1 16) (τ17.2.1 10) (τ17.2.1 27) (τ17.2.1 28) (τ17.2.1 29) (τ17.2.1 30) (τ17.2.1 31) (τ17.2.1 32) (τ17.2.1 33) (τ17.2.1 34) (τ17.2.1 35) (τ17.2.1 36) (τ17.2.1 37) from CJ), (show J_bp (τ17.2.1 44) (τ17.2.1 45) from BP), (show J_nl (τ17.1 3) (τ17.2.1 2) (τ17.2.1 3) (τ17.2.1 4) from NL), (show x16 = 0 → J_rs (τ17.1 35) (τ17.1 7) (τ17.1 6) (τ17.1 36) (τ17.1 37) (τ17.1 5) (τ17.1 8) (τ17.2.1 14) from by (first | (intro z; exfalso; omega) | exact q1_15 | exact q4_15 | exact q7_15 | (intro z; have w := q15_2 z; unfold J_rs; rw [G14, W7]; omega) | (intro z; unfold J_rs; rw [G14, W7]; omega) | (first | (intro z; exfalso; omega) | (intro z; unfold J_rs; omega) | (intro z; unfold J_rs; rw [G14, W7]; omega)) | fail)), (show x16 = 0 → 5 ≤ (τ17.1 35) → 1 ≤ (τ17.1 36) → 0 ≤ τ17.2.1 10 (τ17.2.1 15 (τ17.2.1 14 (τ17.1 7))) from by (first | (intro z; exfalso; omega) | exact q1_16 | exact q4_16 | exact q7_16 | (intro z y y2; exfalso; omega) | (intro z y; have w := q15_2 z; exfalso; omega) | (first | (intro z; exfalso; omega) | (intro z y; exfalso; omega) | exact fun _ => uc | (intro z y y2; exact uc (by omega) (by omega)) | (intro z y y2; exfalso; omega) | (intro z y y2; rw [G10, G14, G15, W7]; exact uc (by omega) (by omega))) | fail)), (show x16 = 0 → (τ17.1 35) = 4 → j_in (τ17.1 36) 1000 (τ17.2.1 54) from by (first | (intro z; exfalso; omega) | exact q1_17 | exact q4_17 | exact q7_17 | (intro z y; rw [show τ17.1 36 = 0 from (q15_2 z).1]; exact j_in0 _ _) | (first | (intro z; exfalso; omega) | (intro z y; exfalso; omega) | exact fun _ => dj) | fail)), (show x16 = 0 → 5 ≤ (τ17.1 35) → J_ip (τ17.1 7) (τ17.1 6) (τ17.1 37) (τ17.2.1 14) (τ17.2.1 15) (τ17.2.1 16) (τ17.2.1 19) from by (first | (intro z; exfalso; omega) | exact q1_18 | exact q4_18 | exact q7_18 | (intro z y; have w := q15_2 z; exfalso; omega) | (intro z y; exact J_ip0 (by rw [W6, G14, W7]; omega)) | (first | (intro z; exfalso; omega) | (intro z y; exfalso; omega) | exact fun _ => ipx | (intro z y; exact ipx (by omega)) | (intro z y; rw [W7, W6, W37, G14, G15, G16, G19]; exact ipx (by omega))) | fail)), (show x16 = 0 → ((τ17.1 35) ≤ 5 → (τ17.1 13) ≤ 60 * (τ17.1 7)) ∧ (τ17.1 13) ≤ 60 * (τ17.1 7) + 60 from by (first | (intro z; exfalso; omega) | exact q1_19 | exact q4_19 | exact q7_19 | (intro z; omega) | fail)), (show x16 = 0 → 6 ≤ (τ17.1 35) → (τ17.1 24) = (τ17.1 7) ∧ J_f (τ17.1 7) (τ17.1 13) (τ17.1 14) (τ17.2.1 13) (τ17.2.1 14) (τ17.2.1 15) (τ17.2.1 16) (τ17.2.1 27) (τ17.2.1 28) (τ17.2.1 29) (τ17.2.1 30) (τ17.2.1 31) (τ17.2.1 32) from by (first | (intro z; exfalso; omega) | exact q1_20 | exact q4_20 | exact q7_20 | (intro z y; have w := q15_2 z; exfalso; omega) | (intro z y; exfalso; omega) | (first | (intro z; exfalso; omega) | (intro z y; exfalso; omega) | exact fun _ => frx | (intro z y; exact frx (by omega)) | (intro z y; have w := frx (by omega); rw [W7, W13, W14, W24, G13, G14, G15, G16, G27, G28, G29, G30, G31, G32]; exact w)) | fail)), (show x16 = 0 → 6 ≤ (τ17.1 35) → J_sp (τ17.1 24) (τ17.1 21) (τ17.1 23) (τ17.1 22) (τ17.2.1 49) (τ17.2.1 51) ∧ ((τ17.1 16) + (τ17.1 21) ≤ 20000) ∧ (¬ (τ17.1 27) = 0 → 1 ≤ (τ17.1 21) ∧ 0 ≤ τ17.2.1 49 ((τ17.1 21) - 1) ∧ τ17.2.1 49 ((τ17.1 21) - 1) < 65536) ∧ ((τ17.1 26) ≤ 1000000) ∧ ((τ17.1 25) ≤ 2 → (τ17.1 27) = 0) from by (first | (intro z; exfalso; omega) | exact q1_21 | exact q4_21 | exact q7_21 | (intro z y; have w := q15_2 z; exfalso; omega) | (intro z y; exfalso; omega) | (first | (intro z; exfalso; omega) | (intro z y; exfalso; omega) | exact fun _ => spx | (intro z y; exact spx (by omega))) | fail)), (show x16 = 0 → (τ17.1 15) ≤ (τ17.1 16) ∧ τ17.2.1 36 (τ17.1 15) ≤ (τ17.1 16) from by (first | (intro z; exfalso; omega) | exact q1_22 | exact q4_22 | exact q7_22 | (intro z; first | exact sux | omega) | fail)), (show x16 = 0 → (τ17.1 9) ≤ (τ17.1 7) from by (first | (intro z; exfalso; omega) | exact q1_23 | exact q4_23 | exact q7_23 | (intro z; omega) | fail)), (show j_rr ((σ.1 5)) (σ.2.1 10) (τ17.2.1 10) from by (first | exact j_rr0 _ _ | exact q1_24 | exact q4_24 | exact q7_24 | (rw [G10]; exact j_rr0 _ _) | fail)), (show j_eq (σ.2.1 36 (σ.1 15)) (σ.2.1 37) (τ17.2.1 37) from CH), (show (τ17.1 12) ≤ (σ.1 12) + 1 from by (first | assumption | omega | (simp only [st_s] <;> omega) | fail)), (show c_Y σ τ17 from by (first | exact c_Y0 _ | exact c_Y_g W4 G11 G20 G22 G25 | exact q1_27 | exact q4_27 | exact q7_27 | exact c_Y_g (by omega) (by rw [g11_τ4]) (by rw [g20_τ4]) (by rw [g22_τ4]) (by rw [g25_τ4]) | exact c_Y_g (by omega) (by rw [g11_τ13]) (by rw [g20_τ13]) (by rw [g22_τ13]) (by rw [g25_τ13]) | exact c_Y_g (by omega) (by rw [g11_τ17]) (by rw [g20_τ17]) (by rw [g22_τ17]) (by rw [g25_τ17]) | fail)), ag⟩
  ·
    refine h109 _ _ ?_
    refine ⟨fun c10 => ?_, fun c10 => ?_⟩
    ·
      exact ⟨hT, (show 0 ≤ 4 ∧ 4 ≤ 19 from by (first | assumption | omega | (simp only [st_s] <;> omega) | fail)), (show J_ht (σ.1 3) (σ.2.1 2) (σ.2.1 3) (σ.2.1 5) (σ.2.1 6) from HT), (show J_mn (σ.1 3) (σ.1 5) ((σ.1 7) + 1) (σ.2.1 4) from MN), (show J_rks (σ.1 5) (σ.1 4) (σ.2.1 10) (σ.2.1 11) from RKS), (show J_vs (σ.1 8) (σ.1 5) (σ.2.1 20) from VS), (show J_vs (σ.1 6) (σ.1 5) (σ.2.1 15) from TX), (show J_va (σ.1 8) 1000 (σ.2.1 18) (σ.2.1 20) from VA), (show J_mk (σ.1 11) (σ.1 8) (σ.1 9) (σ.1 10) (σ.2.1 25) from MK), (show J_sc (σ.1 7) (σ.1 9) (σ.2.1 13) (σ.2.1 14) (σ.2.1 15) (σ.2.1 16) (σ.2.1 22) (σ.2.1 19) from SC), (show J_ff (σ.1 5) (σ.1 7) (σ.2.1 9) (σ.2.1 13) (σ.2.1 14) (σ.2.1 15) from FF), (show ∀ s : Int, σ.2.1 26 s ≤ (σ.1 12) from MT), (show J_all (σ.1 7) (σ.1 6) (σ.1 13) (σ.1 14) (σ.1 15) (σ.2.1 13) (σ.2.1 14) (σ.2.1 15) (σ.2.1 16) (σ.2.1 10) (σ.2.1 27) (σ.2.1 28) (σ.2.1 29) (σ.2.1 30) (σ.2.1 31) (σ.2.1 32) (σ.2.1 33) (σ.2.1 34) (σ.2.1 35) (σ.2.1 36) (σ.2.1 37) from CJ), (show J_bp (σ.2.1 44) (σ.2.1 45) from BP), (show J_nl (σ.1 3) (σ.2.1 2) (σ.2.1 3) (σ.2.1 4) from NL), (show 4 = 0 → J_rs (σ.1 35) (σ.1 7) (σ.1 6) (σ.1 36) (σ.1 37) (σ.1 5) (σ.1 8) (σ.2.1 14) from by (first | (intro z; exfalso; omega) | exact q1_15 | exact q4_15 | exact q7_15 | (intro z; have w := q15_2 z; unfold J_rs; rw [G14, W7]; omega) | (intro z; unfold J_rs; rw [G14, W7]; omega) | (first | (intro z; exfalso; omega) | (intro z; unfold J_rs; omega) | (intro z; unfold J_rs; rw [G14, W7]; omega)) | fail)), (show 4 = 0 → 5 ≤ (σ.1 35) → 1 ≤ (σ.1 36) → 0 ≤ σ.2.1 10 (σ.2.1 15 (σ.2.1 14 (σ.1 7))) from by (first | (intro z; exfalso; omega) | exact q1_16 | exact q4_16 | exact q7_16 | (intro z y y2; exfalso; omega) | (intro z y; have w := q15_2 z; exfalso; omega) | (first | (intro z; exfalso; omega) | (intro z y; exfalso; omega) | exact fun _ => uc | (intro z y y2; exact uc (by omega) (by omega)) | (intro z y y2; exfalso; omega) | (intro z y y2; rw [G10, G14, G15, W7]; exact uc (by omega) (by omega))) | fail)), (show 4 = 0 → (σ.1 35) = 4 → j_in (σ.1 36) 1000 (σ.2.1 54) from by (first | (intro z; exfalso; omega) | exact q1_17 | exact q4_17 | exact q7_17 | (intro z y; rw [show τ17.1 36 = 0 from (q15_2 z).1]; exact j_in0 _ _) | (first | (intro z; exfalso; omega) | (intro z y; exfalso; omega) | exact fun _ => dj) | fail)), (show 4 = 0 → 5 ≤ (σ.1 35) → J_ip (σ.1 7) (σ.1 6) (σ.1 37) (σ.2.1 14) (σ.2.1 15) (σ.2.1 16) (σ.2.1 19) from by (first | (intro z; exfalso; omega) | exact q1_18 | exact q4_18 | exact q7_18 | (intro z y; have w := q15_2 z; exfalso; omega) | (intro z y; exact J_ip0 (by rw [W6, G14, W7]; omega)) | (first | (intro z; exfalso; omega) | (intro z y; exfalso; omega) | exact fun _ => ipx | (intro z y; exact ipx (by omega)) | (intro z y; rw [W7, W6, W37, G14, G15, G16, G19]; exact ipx (by omega))) | fail)), (show 4 = 0 → ((σ.1 35) ≤ 5 → (σ.1 13) ≤ 60 * (σ.1 7)) ∧ (σ.1 13) ≤ 60 * (σ.1 7) + 60 from by (first | (intro z; exfalso; omega) | exact q1_19 | exact q4_19 | exact q7_19 | (intro z; omega) | fail)), (show 4 = 0 → 6 ≤ (σ.1 35) → (σ.1 24) = (σ.1 7) ∧ J_f (σ.1 7) (σ.1 13) (σ.1 14) (σ.2.1 13) (σ.2.1 14) (σ.2.1 15) (σ.2.1 16) (σ.2.1 27) (σ.2.1 28) (σ.2.1 29) (σ.2.1 30) (σ.2.1 31) (σ.2.1 32) from by (first | (intro z; exfalso; omega) | exact q1_20 | exact q4_20 | exact q7_20 | (intro z y; have w := q15_2 z; exfalso; omega) | (intro z y; exfalso; omega) | (first | (intro z; exfalso; omega) | (intro z y; exfalso; omega) | exact fun _ => frx | (intro z y; exact frx (by omega)) | (intro z y; have w := frx (by omega); rw [W7, W13, W14, W24, G13, G14, G15, G16, G27, G28, G29, G30, G31, G32]; exact w)) | fail)), (show 4 = 0 → 6 ≤ (σ.1 35) → J_sp (σ.1 24) (σ.1 21) (σ.1 23) (σ.1 22) (σ.2.1 49) (σ.2.1 51) ∧ ((σ.1 16) + (σ.1 21) ≤ 20000) ∧ (¬ (σ.1 27) = 0 → 1 ≤ (σ.1 21) ∧ 0 ≤ σ.2.1 49 ((σ.1 21) - 1) ∧ σ.2.1 49 ((σ.1 21) - 1) < 65536) ∧ ((σ.1 26) ≤ 1000000) ∧ ((σ.1 25) ≤ 2 → (σ.1 27) = 0) from by (first | (intro z; exfalso; omega) | exact q1_21 | exact q4_21 | exact q7_21 | (intro z y; have w := q15_2 z; exfalso; omega) | (intro z y; exfalso; omega) | (first | (intro z; exfalso; omega) | (intro z y; exfalso; omega) | exact fun _ => spx | (intro z y; exact spx (by omega))) | fail)), (show 4 = 0 → (σ.1 15) ≤ (σ.1 16) ∧ σ.2.1 36 (σ.1 15) ≤ (σ.1 16) from by (first | (intro z; exfalso; omega) | exact q1_22 | exact q4_22 | exact q7_22 | (intro z; first | exact sux | omega) | fail)), (show 4 = 0 → (σ.1 9) ≤ (σ.1 7) from by (first | (intro z; exfalso; omega) | exact q1_23 | exact q4_23 | exact q7_23 | (intro z; omega) | fail)), (show j_rr ((σ.1 5)) (σ.2.1 10) (σ.2.1 10) from by (first | exact j_rr0 _ _ | exact q1_24 | exact q4_24 | exact q7_24 | (rw [G10]; exact j_rr0 _ _) | fail)), (show j_eq (σ.2.1 36 (σ.1 15)) (σ.2.1 37) (σ.2.1 37) from CH), (show (σ.1 12) ≤ (σ.1 12) + 1 from by (first | assumption | omega | (simp only [st_s] <;> omega) | fail)), (show c_Y σ σ from by (first | exact c_Y0 _ | exact c_Y_g W4 G11 G20 G22 G25 | exact q1_27 | exact q4_27 | exact q7_27 | exact c_Y_g (by omega) (by rw [g11_τ4]) (by rw [g20_τ4]) (by rw [g22_τ4]) (by rw [g25_τ4]) | exact c_Y_g (by omega) (by rw [g11_τ13]) (by rw [g20_τ13]) (by rw [g22_τ13]) (by rw [g25_τ13]) | exact c_Y_g (by omega) (by rw [g11_τ17]) (by rw [g20_τ17]) (by rw [g22_τ17]) (by rw [g25_τ17]) | fail)), ag⟩
    ·
      refine ⟨_, K2_X7_statement hT, ?_⟩
      intro x12 τ13 r_x12 hn_τ13 hf_τ13 hq
      obtain ⟨hT, q11_1, q11_2, q11_3⟩ := hq
      replace q11_1 : x12 = 0 := q11_1
      replace q11_2 : (τ13.1 36) = 0 := q11_2
      replace q11_3 : (τ13.1 35) = 5 := q11_3
      replace ag : c_ag σ τ13 := ag_r ag hf_τ13 rfl rfl
      have w3_τ13 : τ13.1 3 = σ.1 3 := hf_τ13.1 3 (by decide)
      have w4_τ13 : τ13.1 4 = σ.1 4 := hf_τ13.1 4 (by decide)
      have w5_τ13 : τ13.1 5 = σ.1 5 := hf_τ13.1 5 (by decide)
      have w6_τ13 : τ13.1 6 = σ.1 6 := hf_τ13.1 6 (by decide)
      have w7_τ13 : τ13.1 7 = σ.1 7 := hf_τ13.1 7 (by decide)
      have w8_τ13 : τ13.1 8 = σ.1 8 := hf_τ13.1 8 (by decide)
      have w9_τ13 : τ13.1 9 = σ.1 9 := hf_τ13.1 9 (by decide)
      have w10_τ13 : τ13.1 10 = σ.1 10 := hf_τ13.1 10 (by decide)
      have w11_τ13 : τ13.1 11 = σ.1 11 := hf_τ13.1 11 (by decide)
      have w12_τ13 : τ13.1 12 = σ.1 12 := hf_τ13.1 12 (by decide)
      have w13_τ13 : τ13.1 13 = σ.1 13 := hf_τ13.1 13 (by decide)
      have w14_τ13 : τ13.1 14 = σ.1 14 := hf_τ13.1 14 (by decide)
      have w15_τ13 : τ13.1 15 = σ.1 15 := hf_τ13.1 15 (by decide)
      have w16_τ13 : τ13.1 16 = σ.1 16 := hf_τ13.1 16 (by decide)
      have w21_τ13 : τ13.1 21 = σ.1 21 := hf_τ13.1 21 (by decide)
      have w22_τ13 : τ13.1 22 = σ.1 22 := hf_τ13.1 22 (by decide)
      have w23_τ13 : τ13.1 23 = σ.1 23 := hf_τ13.1 23 (by decide)
      have w24_τ13 : τ13.1 24 = σ.1 24 := hf_τ13.1 24 (by decide)
      have w25_τ13 : τ13.1 25 = σ.1 25 := hf_τ13.1 25 (by decide)
      have w26_τ13 : τ13.1 26 = σ.1 26 := hf_τ13.1 26 (by decide)
      have w27_τ13 : τ13.1 27 = σ.1 27 := hf_τ13.1 27 (by decide)
      have g2_τ13 : τ13.2.1 2 = σ.2.1 2 := hf_τ13.2.1 2 (by decide)
      have g3_τ13 : τ13.2.1 3 = σ.2.1 3 := hf_τ13.2.1 3 (by decide)
      have g4_τ13 : τ13.2.1 4 = σ.2.1 4 := hf_τ13.2.1 4 (by decide)
      have g5_τ13 : τ13.2.1 5 = σ.2.1 5 := hf_τ13.2.1 5 (by decide)
      have g6_τ13 : τ13.2.1 6 = σ.2.1 6 := hf_τ13.2.1 6 (by decide)
      have g8_τ13 : τ13.2.1 8 = σ.2.1 8 := hf_τ13.2.1 8 (by decide)
      have g9_τ13 : τ13.2.1 9 = σ.2.1 9 := hf_τ13.2.1 9 (by decide)
      have g10_τ13 : τ13.2.1 10 = σ.2.1 10 := hf_τ13.2.1 10 (by decide)
      have g11_τ13 : τ13.2.1 11 = σ.2.1 11 := hf_τ13.2.1 11 (by decide)
      have g13_τ13 : τ13.2.1 13 = σ.2.1 13 := hf_τ13.2.1 13 (by decide)
      have g14_τ13 : τ13.2.1 14 = σ.2.1 14 := hf_τ13.2.1 14 (by decide)
      have g15_τ13 : τ13.2.1 15 = σ.2.1 15 := hf_τ13.2.1 15 (by decide)
      have g16_τ13 : τ13.2.1 16 = σ.2.1 16 := hf_τ13.2.1 16 (by decide)
      have g18_τ13 : τ13.2.1 18 = σ.2.1 18 := hf_τ13.2.1 18 (by decide)
      have g19_τ13 : τ13.2.1 19 = σ.2.1 19 := hf_τ13.2.1 19 (by decide)
      have g20_τ13 : τ13.2.1 20 = σ.2.1 20 := hf_τ13.2.1 20 (by decide)
      have g22_τ13 : τ13.2.1 22 = σ.2.1 22 := hf_τ13.2.1 22 (by decide)
      have g23_τ13 : τ13.2.1 23 = σ.2.1 23 := hf_τ13.2.1 23 (by decide)
      have g24_τ13 : τ13.2.1 24 = σ.2.1 24 := hf_τ13.2.1 24 (by decide)
      have g25_τ13 : τ13.2.1 25 = σ.2.1 25 := hf_τ13.2.1 25 (by decide)
      have g26_τ13 : τ13.2.1 26 = σ.2.1 26 := hf_τ13.2.1 26 (by decide)
      have g27_τ13 : τ13.2.1 27 = σ.2.1 27 := hf_τ13.2.1 27 (by decide)
      have g28_τ13 : τ13.2.1 28 = σ.2.1 28 := hf_τ13.2.1 28 (by decide)
      have g29_τ13 : τ13.2.1 29 = σ.2.1 29 := hf_τ13.2.1 29 (by decide)
      have g30_τ13 : τ13.2.1 30 = σ.2.1 30 := hf_τ13.2.1 30 (by decide)
      have g31_τ13 : τ13.2.1 31 = σ.2.1 31 := hf_τ13.2.1 31 (by decide)
      have g32_τ13 : τ13.2.1 32 = σ.2.1 32 := hf_τ13.2.1 32 (by decide)
      have g33_τ13 : τ13.2.1 33 = σ.2.1 33 := hf_τ13.2.1 33 (by decide)
      have g34_τ13 : τ13.2.1 34 = σ.2.1 34 := hf_τ13.2.1 34 (by decide)
      have g35_τ13 : τ13.2.1 35 = σ.2.1 35 := hf_τ13.2.1 35 (by decide)
      have g36_τ13 : τ13.2.1 36 = σ.2.1 36 := hf_τ13.2.1 36 (by decide)
      have g37_τ13 : τ13.2.1 37 = σ.2.1 37 := hf_τ13.2.1 37 (by decide)
      have g44_τ13 : τ13.2.1 44 = σ.2.1 44 := hf_τ13.2.1 44 (by decide)
      have g45_τ13 : τ13.2.1 45 = σ.2.1 45 := hf_τ13.2.1 45 (by decide)
      have g49_τ13 : τ13.2.1 49 = σ.2.1 49 := hf_τ13.2.1 49 (by decide)
      have g51_τ13 : τ13.2.1 51 = σ.2.1 51 := hf_τ13.2.1 51 (by decide)
      have g54_τ13 : τ13.2.1 54 = σ.2.1 54 := hf_τ13.2.1 54 (by decide)
      have W3 : τ13.1 3 = σ.1 3 := by omega
      have W4 : τ13.1 4 = σ.1 4 := by omega
      have W5 : τ13.1 5 = σ.1 5 := by omega
      have W6 : τ13.1 6 = σ.1 6 := by omega
      have W7 : τ13.1 7 = σ.1 7 := by omega
      have W15 : τ13.1 15 = σ.1 15 := by omega
      have W16 : τ13.1 16 = σ.1 16 := by omega
      have G2 : τ13.2.1 2 = σ.2.1 2 := (g2_τ13).trans G2
      have G3 : τ13.2.1 3 = σ.2.1 3 := (g3_τ13).trans G3
      have G4 : τ13.2.1 4 = σ.2.1 4 := (g4_τ13).trans G4
      have G5 : τ13.2.1 5 = σ.2.1 5 := (g5_τ13).trans G5
      have G6 : τ13.2.1 6 = σ.2.1 6 := (g6_τ13).trans G6
      have G8 : τ13.2.1 8 = σ.2.1 8 := (g8_τ13).trans G8
      have G9 : τ13.2.1 9 = σ.2.1 9 := (g9_τ13).trans G9
      have G10 : τ13.2.1 10 = σ.2.1 10 := (g10_τ13).trans G10
      have G11 : τ13.2.1 11 = σ.2.1 11 := (g11_τ13).trans G11
      have G13 : τ13.2.1 13 = σ.2.1 13 := (g13_τ13).trans G13
      have G14 : τ13.2.1 14 = σ.2.1 14 := (g14_τ13).trans G14
      have G15 : τ13.2.1 15 = σ.2.1 15 := (g15_τ13).trans G15
      have G16 : τ13.2.1 16 = σ.2.1 16 := (g16_τ13).trans G16
      have G20 : τ13.2.1 20 = σ.2.1 20 := (g20_τ13).trans G20
      have G22 : τ13.2.1 22 = σ.2.1 22 := (g22_τ13).trans G22
      have G23 : τ13.2.1 23 = σ.2.1 23 := (g23_τ13).trans G23
      have G24 : τ13.2.1 24 = σ.2.1 24 := (g24_τ13).trans G24
      have G33 : τ13.2.1 33 = σ.2.1 33 := (g33_τ13).trans G33
      have G34 : τ13.2.1 34 = σ.2.1 34 := (g34_τ13).trans G34
      have G35 : τ13.2.1 35 = σ.2.1 35 := (g35_τ13).trans G35
      have G36 : τ13.2.1 36 = σ.2.1 36 := (g36_τ13).trans G36
      have G37 : τ13.2.1 37 = σ.2.1 37 := (g37_τ13).trans G37
      have G44 : τ13.2.1 44 = σ.2.1 44 := (g44_τ13).trans G44
      have G45 : τ13.2.1 45 = σ.2.1 45 := (g45_τ13).trans G45
      have G49 : τ13.2.1 49 = σ.2.1 49 := (g49_τ13).trans G49
      have G51 : τ13.2.1 51 = σ.2.1 51 := (g51_τ13).trans G51
      have G54 : τ13.2.1 54 = σ.2.1 54 := (g54_τ13).trans G54
      have y14_7_τ13 : τ13.2.1 14 (τ13.1 7) = (σ.2.1 14) (σ.1 7) := by rw [g14_τ13, w7_τ13]
      have y36_15_τ13 : τ13.2.1 36 (τ13.1 15) = (σ.2.1 36) (σ.1 15) := by rw [g36_τ13, w15_τ13]
      have HT : J_ht (τ13.1 3) (τ13.2.1 2) (τ13.2.1 3) (τ13.2.1 5) (τ13.2.1 6) := by rw [show (J_ht (τ13.1 3) (τ13.2.1 2) (τ13.2.1 3) (τ13.2.1 5) (τ13.2.1 6)) = (J_ht (σ.1 3) (σ.2.1 2) (σ.2.1 3) (σ.2.1 5) (σ.2.1 6)) from by rw [w3_τ13, g2_τ13, g3_τ13, g5_τ13, g6_τ13]]; exact HT
      have NL : J_nl (τ13.1 3) (τ13.2.1 2) (τ13.2.1 3) (τ13.2.1 4) := by rw [show (J_nl (τ13.1 3) (τ13.2.1 2) (τ13.2.1 3) (τ13.2.1 4)) = (J_nl (σ.1 3) (σ.2.1 2) (σ.2.1 3) (σ.2.1 4)) from by rw [w3_τ13, g2_τ13, g3_τ13, g4_τ13]]; exact NL
      have MN : J_mn (τ13.1 3) (τ13.1 5) ((τ13.1 7) + 1) (τ13.2.1 4) := by rw [show (J_mn (τ13.1 3) (τ13.1 5) ((τ13.1 7) + 1) (τ13.2.1 4)) = (J_mn (σ.1 3) (σ.1 5) ((σ.1 7) + 1) (σ.2.1 4)) from by rw [w3_τ13, w5_τ13, w7_τ13, g4_τ13]]; exact MN
      have VA : J_va (τ13.1 8) 1000 (τ13.2.1 18) (τ13.2.1 20) := by rw [show (J_va (τ13.1 8) 1000 (τ13.2.1 18) (τ13.2.1 20)) = (J_va (σ.1 8) 1000 (σ.2.1 18) (σ.2.1 20)) from by rw [w8_τ13, g18_τ13, g20_τ13]]; exact VA
      have SC : J_sc (τ13.1 7) (τ13.1 9) (τ13.2.1 13) (τ13.2.1 14) (τ13.2.1 15) (τ13.2.1 16) (τ13.2.1 22) (τ13.2.1 19) := by rw [show (J_sc (τ13.1 7) (τ13.1 9) (τ13.2.1 13) (τ13.2.1 14) (τ13.2.1 15) (τ13.2.1 16) (τ13.2.1 22) (τ13.2.1 19)) = (J_sc (σ.1 7) (σ.1 9) (σ.2.1 13) (σ.2.1 14) (σ.2.1 15) (σ.2.1 16) (σ.2.1 22) (σ.2.1 19)) from by rw [w7_τ13, w9_τ13, g13_τ13, g14_τ13, g15_τ13, g16_τ13, g19_τ13, g22_τ13]]; exact SC
      have MK : J_mk (τ13.1 11) (τ13.1 8) (τ13.1 9) (τ13.1 10) (τ13.2.1 25) := by rw [show (J_mk (τ13.1 11) (τ13.1 8) (τ13.1 9) (τ13.1 10) (τ13.2.1 25)) = (J_mk (σ.1 11) (σ.1 8) (σ.1 9) (σ.1 10) (σ.2.1 25)) from by rw [w8_τ13, w9_τ13, w10_τ13, w11_τ13, g25_τ13]]; exact MK
      have FF : J_ff (τ13.1 5) (τ13.1 7) (τ13.2.1 9) (τ13.2.1 13) (τ13.2.1 14) (τ13.2.1 15) := by rw [show (J_ff (τ13.1 5) (τ13.1 7) (τ13.2.1 9) (τ13.2.1 13) (τ13.2.1 14) (τ13.2.1 15)) = (J_ff (σ.1 5) (σ.1 7) (σ.2.1 9) (σ.2.1 13) (σ.2.1 14) (σ.2.1 15)) from by rw [w5_τ13, w7_τ13, g9_τ13, g13_τ13, g14_τ13, g15_τ13]]; exact FF
      have MT : ∀ s : Int, τ13.2.1 26 s ≤ (τ13.1 12) := by rw [show (∀ s : Int, τ13.2.1 26 s ≤ (τ13.1 12)) = (∀ s : Int, σ.2.1 26 s ≤ (σ.1 12)) from by rw [w12_τ13, g26_τ13]]; exact MT
      have VS : J_vs (τ13.1 8) (τ13.1 5) (τ13.2.1 20) := by rw [show (J_vs (τ13.1 8) (τ13.1 5) (τ13.2.1 20)) = (J_vs (σ.1 8) (σ.1 5) (σ.2.1 20)) from by rw [w5_τ13, w8_τ13, g20_τ13]]; exact VS
      have TX : J_vs (τ13.1 6) (τ13.1 5) (τ13.2.1 15) := by rw [show (J_vs (τ13.1 6) (τ13.1 5) (τ13.2.1 15)) = (J_vs (σ.1 6) (σ.1 5) (σ.2.1 15)) from by rw [w5_τ13, w6_τ13, g15_τ13]]; exact TX
      have RKS : J_rks (τ13.1 5) (τ13.1 4) (τ13.2.1 10) (τ13.2.1 11) := by rw [show (J_rks (τ13.1 5) (τ13.1 4) (τ13.2.1 10) (τ13.2.1 11)) = (J_rks (σ.1 5) (σ.1 4) (σ.2.1 10) (σ.2.1 11)) from by rw [w4_τ13, w5_τ13, g10_τ13, g11_τ13]]; exact RKS
      have CJ : J_all (τ13.1 7) (τ13.1 6) (τ13.1 13) (τ13.1 14) (τ13.1 15) (τ13.2.1 13) (τ13.2.1 14) (τ13.2.1 15) (τ13.2.1 16) (τ13.2.1 10) (τ13.2.1 27) (τ13.2.1 28) (τ13.2.1 29) (τ13.2.1 30) (τ13.2.1 31) (τ13.2.1 32) (τ13.2.1 33) (τ13.2.1 34) (τ13.2.1 35) (τ13.2.1 36) (τ13.2.1 37) := by rw [show (J_all (τ13.1 7) (τ13.1 6) (τ13.1 13) (τ13.1 14) (τ13.1 15) (τ13.2.1 13) (τ13.2.1 14) (τ13.2.1 15) (τ13.2.1 16) (τ13.2.1 10) (τ13.2.1 27) (τ13.2.1 28) (τ13.2.1 29) (τ13.2.1 30) (τ13.2.1 31) (τ13.2.1 32) (τ13.2.1 33) (τ13.2.1 34) (τ13.2.1 35) (τ13.2.1 36) (τ13.2.1 37)) = (J_all (σ.1 7) (σ.1 6) (σ.1 13) (σ.1 14) (σ.1 15) (σ.2.1 13) (σ.2.1 14) (σ.2.1 15) (σ.2.1 16) (σ.2.1 10) (σ.2.1 27) (σ.2.1 28) (σ.2.1 29) (σ.2.1 30) (σ.2.1 31) (σ.2.1 32) (σ.2.1 33) (σ.2.1 34) (σ.2.1 35) (σ.2.1 36) (σ.2.1 37)) from by rw [w6_τ13, w7_τ13, w13_τ13, w14_τ13, w15_τ13, g10_τ13, g13_τ13, g14_τ13, g15_τ13, g16_τ13, g27_τ13, g28_τ13, g29_τ13, g30_τ13, g31_τ13, g32_τ13, g33_τ13, g34_τ13, g35_τ13, g36_τ13, g37_τ13]]; exact CJ
      have BP : J_bp (τ13.2.1 44) (τ13.2.1 45) := by rw [show (J_bp (τ13.2.1 44) (τ13.2.1 45)) = (J_bp (σ.2.1 44) (σ.2.1 45)) from by rw [g44_τ13, g45_τ13]]; exact BP
      have CH : j_eq (σ.2.1 36 (σ.1 15)) (σ.2.1 37) (τ13.2.1 37) := by rw [show (j_eq (σ.2.1 36 (σ.1 15)) (σ.2.1 37) (τ13.2.1 37)) = (j_eq (σ.2.1 36 (σ.1 15)) (σ.2.1 37) (σ.2.1 37)) from by rw [g37_τ13]]; exact CH
      have A2 : ∀ j, 0 ≤ τ13.2.1 2 j ∧ τ13.2.1 2 j ≤ 65535 := fun j => hT.2 2 j
      have A3 : ∀ j, 0 ≤ τ13.2.1 3 j ∧ τ13.2.1 3 j ≤ 30000 := fun j => hT.2 3 j
      have A4 : ∀ j, (-1000) ≤ τ13.2.1 4 j ∧ τ13.2.1 4 j ≤ 1499 := fun j => hT.2 4 j
      have A5 : ∀ j, 0 ≤ τ13.2.1 5 j ∧ τ13.2.1 5 j ≤ 2500 := fun j => hT.2 5 j
      have A6 : ∀ j, 0 ≤ τ13.2.1 6 j ∧ τ13.2.1 6 j ≤ 2500 := fun j => hT.2 6 j
      have A8 : ∀ j, 0 ≤ τ13.2.1 8 j ∧ τ13.2.1 8 j ≤ 1 := fun j => hT.2 8 j
      have A9 : ∀ j, (-1) ≤ τ13.2.1 9 j ∧ τ13.2.1 9 j ≤ 1499 := fun j => hT.2 9 j
      have A10 : ∀ j, (-1) ≤ τ13.2.1 10 j ∧ τ13.2.1 10 j ≤ 99 := fun j => hT.2 10 j
      have A11 : ∀ j, 0 ≤ τ13.2.1 11 j ∧ τ13.2.1 11 j ≤ 999 := fun j => hT.2 11 j
      have A13 : ∀ j, 0 ≤ τ13.2.1 13 j ∧ τ13.2.1 13 j ≤ 4 := fun j => hT.2 13 j
      have A14 : ∀ j, 0 ≤ τ13.2.1 14 j ∧ τ13.2.1 14 j ≤ 30000 := fun j => hT.2 14 j
      have A15 : ∀ j, 0 ≤ τ13.2.1 15 j ∧ τ13.2.1 15 j ≤ 999 := fun j => hT.2 15 j
      have A16 : ∀ j, (-1) ≤ τ13.2.1 16 j ∧ τ13.2.1 16 j ≤ 1499 := fun j => hT.2 16 j
      have A18 : ∀ j, 0 ≤ τ13.2.1 18 j ∧ τ13.2.1 18 j ≤ 1 := fun j => hT.2 18 j
      have A19 : ∀ j, (-1) ≤ τ13.2.1 19 j ∧ τ13.2.1 19 j ≤ 1499 := fun j => hT.2 19 j
      have A20 : ∀ j, 0 ≤ τ13.2.1 20 j ∧ τ13.2.1 20 j ≤ 999 := fun j => hT.2 20 j
      have A22 : ∀ j, 0 ≤ τ13.2.1 22 j ∧ τ13.2.1 22 j ≤ 1499 := fun j => hT.2 22 j
      have A23 : ∀ j, 0 ≤ τ13.2.1 23 j ∧ τ13.2.1 23 j ≤ 999 := fun j => hT.2 23 j
      have A24 : ∀ j, 0 ≤ τ13.2.1 24 j ∧ τ13.2.1 24 j ≤ 999 := fun j => hT.2 24 j
      have A26 : ∀ j, (-2147483648) ≤ τ13.2.1 26 j ∧ τ13.2.1 26 j ≤ 2147483647 := fun j => hT.2 26 j
      have A27 : ∀ j, 0 ≤ τ13.2.1 27 j ∧ τ13.2.1 27 j ≤ 90000 := fun j => hT.2 27 j
      have A28 : ∀ j, 0 ≤ τ13.2.1 28 j ∧ τ13.2.1 28 j ≤ 60 := fun j => hT.2 28 j
      have A29 : ∀ j, 0 ≤ τ13.2.1 29 j ∧ τ13.2.1 29 j ≤ 1499 := fun j => hT.2 29 j
      have A30 : ∀ j, 0 ≤ τ13.2.1 30 j ∧ τ13.2.1 30 j ≤ 20000 := fun j => hT.2 30 j
      have A31 : ∀ j, 0 ≤ τ13.2.1 31 j ∧ τ13.2.1 31 j ≤ 20000 := fun j => hT.2 31 j
      have A32 : ∀ j, 0 ≤ τ13.2.1 32 j ∧ τ13.2.1 32 j ≤ 999999 := fun j => hT.2 32 j
      have A33 : ∀ j, 0 ≤ τ13.2.1 33 j ∧ τ13.2.1 33 j ≤ 20000 := fun j => hT.2 33 j
      have A34 : ∀ j, 0 ≤ τ13.2.1 34 j ∧ τ13.2.1 34 j ≤ 20000 := fun j => hT.2 34 j
      have A35 : ∀ j, 0 ≤ τ13.2.1 35 j ∧ τ13.2.1 35 j ≤ 1499 := fun j => hT.2 35 j
      have A36 : ∀ j, 0 ≤ τ13.2.1 36 j ∧ τ13.2.1 36 j ≤ 20000 := fun j => hT.2 36 j
      have A37 : ∀ j, 0 ≤ τ13.2.1 37 j ∧ τ13.2.1 37 j ≤ 19999 := fun j => hT.2 37 j
      have A44 : ∀ j, 0 ≤ τ13.2.1 44 j ∧ τ13.2.1 44 j ≤ 42000 := fun j => hT.2 44 j
      have A45 : ∀ j, 0 ≤ τ13.2.1 45 j ∧ τ13.2.1 45 j ≤ 1000 := fun j => hT.2 45 j
      have A49 : ∀ j, (-300) ≤ τ13.2.1 49 j ∧ τ13.2.1 49 j ≤ 67035 := fun j => hT.2 49 j
      have A51 : ∀ j, 0 ≤ τ13.2.1 51 j ∧ τ13.2.1 51 j ≤ 1499 := fun j => hT.2 51 j
      have A54 : ∀ j, 0 ≤ τ13.2.1 54 j ∧ τ13.2.1 54 j ≤ 999 := fun j => hT.2 54 j
      have v3 : 0 ≤ τ13.1 3 ∧ τ13.1 3 ≤ 2500 := hT.1 3
      have v4 : 0 ≤ τ13.1 4 ∧ τ13.1 4 ≤ 100 := hT.1 4
      have v5 : 0 ≤ τ13.1 5 ∧ τ13.1 5 ≤ 1000 := hT.1 5
      have v6 : 0 ≤ τ13.1 6 ∧ τ13.1 6 ≤ 30000 := hT.1 6
      have v7 : 0 ≤ τ13.1 7 ∧ τ13.1 7 ≤ 1500 := hT.1 7
      have v8 : 0 ≤ τ13.1 8 ∧ τ13.1 8 ≤ 1000 := hT.1 8
      have v9 : 0 ≤ τ13.1 9 ∧ τ13.1 9 ≤ 1500 := hT.1 9
      have v10 : 0 ≤ τ13.1 10 ∧ τ13.1 10 ≤ 1000 := hT.1 10
      have v11 : 0 ≤ τ13.1 11 ∧ τ13.1 11 ≤ 50 := hT.1 11
      have v12 : (-2147483648) ≤ τ13.1 12 ∧ τ13.1 12 ≤ 2147483647 := hT.1 12
      have v13 : 0 ≤ τ13.1 13 ∧ τ13.1 13 ≤ 90000 := hT.1 13
      have v14 : 0 ≤ τ13.1 14 ∧ τ13.1 14 ≤ 20000 := hT.1 14
      have v15 : 0 ≤ τ13.1 15 ∧ τ13.1 15 ≤ 20000 := hT.1 15
      have v16 : 0 ≤ τ13.1 16 ∧ τ13.1 16 ≤ 20000 := hT.1 16
      have v21 : 0 ≤ τ13.1 21 ∧ τ13.1 21 ≤ 20000 := hT.1 21
      have v22 : 0 ≤ τ13.1 22 ∧ τ13.1 22 ≤ 300 := hT.1 22
      have v23 : 0 ≤ τ13.1 23 ∧ τ13.1 23 ≤ 300 := hT.1 23
      have v24 : 0 ≤ τ13.1 24 ∧ τ13.1 24 ≤ 1499 := hT.1 24
      have v25 : 0 ≤ τ13.1 25 ∧ τ13.1 25 ≤ 3 := hT.1 25
      have v26 : 0 ≤ τ13.1 26 ∧ τ13.1 26 ≤ 5000010 := hT.1 26
      have v27 : 0 ≤ τ13.1 27 ∧ τ13.1 27 ≤ 1 := hT.1 27
      have v35 : 0 ≤ τ13.1 35 ∧ τ13.1 35 ≤ 7 := hT.1 35
      have v36 : 0 ≤ τ13.1 36 ∧ τ13.1 36 ≤ 1001 := hT.1 36
      have v37 : 0 ≤ τ13.1 37 ∧ τ13.1 37 ≤ 4 := hT.1 37
      have a14_7 : 0 ≤ τ13.2.1 14 (τ13.1 7) ∧ τ13.2.1 14 (τ13.1 7) ≤ 30000 := hT.2 14 _
      have a36_15 : 0 ≤ τ13.2.1 36 (τ13.1 15) ∧ τ13.2.1 36 (τ13.1 15) ≤ 20000 := hT.2 36 _
      have av13 : σ.1 13 ≤ τ13.1 13 := ag.1 13 (by decide)
      have av14 : σ.1 14 ≤ τ13.1 14 := ag.1 14 (by decide)
      exact ⟨hT, (show 0 ≤ x12 ∧ x12 ≤ 19 from by (first | assumption | omega | (simp only [st_s] <;> omega) | fail)), (show J_ht (τ13.1 3) (τ13.2.1 2) (τ13.2.1 3) (τ13.2.1 5) (τ13.2.1 6) from HT), (show J_mn (τ13.1 3) (τ13.1 5) ((τ13.1 7) + 1) (τ13.2.1 4) from MN), (show J_rks (τ13.1 5) (τ13.1 4) (τ13.2.1 10) (τ13.2.1 11) from RKS), (show J_vs (τ13.1 8) (τ13.1 5) (τ13.2.1 20) from VS), (show J_vs (τ13.1 6) (τ13.1 5) (τ13.2.1 15) from TX), (show J_va (τ13.1 8) 1000 (τ13.2.1 18) (τ13.2.1 20) from VA), (show J_mk (τ13.1 11) (τ13.1 8) (τ13.1 9) (τ13.1 10) (τ13.2.1 25) from MK), (show J_sc (τ13.1 7) (τ13.1 9) (τ13.2.1 13) (τ13.2.1 14) (τ13.2.1 15) (τ13.2.1 16) (τ13.2.1 22) (τ13.2.1 19) from SC), (show J_ff (τ13.1 5) (τ13.1 7) (τ13.2.1 9) (τ13.2.1 13) (τ13.2.1 14) (τ13.2.1 15) from FF), (show ∀ s : Int, τ13.2.1 26 s ≤ (τ13.1 12) from MT), (show J_all (τ13.1 7) (τ13.1 6) (τ13.1 13) (τ13.1 14) (τ13.1 15) (τ13.2.1 13) (τ13.2.1 14) (τ13.2.1 15) (τ13.2.1 16) (τ13.2.1 10) (τ13.2.1 27) (τ13.2.1 28) (τ13.2.1 29) (τ13.2.1 30) (τ13.2.1 31) (τ13.2.1 32) (τ13.2.1 33) (τ13.2.1 34) (τ13.2.1 35) (τ13.2.1 36) (τ13.2.1 37) from CJ), (show J_bp (τ13.2.1 44) (τ13.2.1 45) from BP), (show J_nl (τ13.1 3) (τ13.2.1 2) (τ13.2.1 3) (τ13.2.1 4) from NL), (show x12 = 0 → J_rs (τ13.1 35) (τ13.1 7) (τ13.1 6) (τ13.1 36) (τ13.1 37) (τ13.1 5) (τ13.1 8) (τ13.2.1 14) from by (first | (intro z; exfalso; omega) | exact q1_15 | exact q4_15 | exact q7_15 | (intro z; have w := q15_2 z; unfold J_rs; rw [G14, W7]; omega) | (intro z; unfold J_rs; rw [G14, W7]; omega) | (first | (intro z; exfalso; omega) | (intro z; unfold J_rs; omega) | (intro z; unfold J_rs; rw [G14, W7]; omega)) | fail)), (show x12 = 0 → 5 ≤ (τ13.1 35) → 1 ≤ (τ13.1 36) → 0 ≤ τ13.2.1 10 (τ13.2.1 15 (τ13.2.1 14 (τ13.1 7))) from by (first | (intro z; exfalso; omega) | exact q1_16 | exact q4_16 | exact q7_16 | (intro z y y2; exfalso; omega) | (intro z y; have w := q15_2 z; exfalso; omega) | (first | (intro z; exfalso; omega) | (intro z y; exfalso; omega) | exact fun _ => uc | (intro z y y2; exact uc (by omega) (by omega)) | (intro z y y2; exfalso; omega) | (intro z y y2; rw [G10, G14, G15, W7]; exact uc (by omega) (by omega))) | fail)), (show x12 = 0 → (τ13.1 35) = 4 → j_in (τ13.1 36) 1000 (τ13.2.1 54) from by (first | (intro z; exfalso; omega) | exact q1_17 | exact q4_17 | exact q7_17 | (intro z y; rw [show τ17.1 36 = 0 from (q15_2 z).1]; exact j_in0 _ _) | (first | (intro z; exfalso; omega) | (intro z y; exfalso; omega) | exact fun _ => dj) | fail)), (show x12 = 0 → 5 ≤ (τ13.1 35) → J_ip (τ13.1 7) (τ13.1 6) (τ13.1 37) (τ13.2.1 14) (τ13.2.1 15) (τ13.2.1 16) (τ13.2.1 19) from by (first | (intro z; exfalso; omega) | exact q1_18 | exact q4_18 | exact q7_18 | (intro z y; have w := q15_2 z; exfalso; omega) | (intro z y; exact J_ip0 (by rw [W6, G14, W7]; omega)) | (first | (intro z; exfalso; omega) | (intro z y; exfalso; omega) | exact fun _ => ipx | (intro z y; exact ipx (by omega)) | (intro z y; rw [W7, W6, W37, G14, G15, G16, G19]; exact ipx (by omega))) | fail)), (show x12 = 0 → ((τ13.1 35) ≤ 5 → (τ13.1 13) ≤ 60 * (τ13.1 7)) ∧ (τ13.1 13) ≤ 60 * (τ13.1 7) + 60 from by (first | (intro z; exfalso; omega) | exact q1_19 | exact q4_19 | exact q7_19 | (intro z; omega) | fail)), (show x12 = 0 → 6 ≤ (τ13.1 35) → (τ13.1 24) = (τ13.1 7) ∧ J_f (τ13.1 7) (τ13.1 13) (τ13.1 14) (τ13.2.1 13) (τ13.2.1 14) (τ13.2.1 15) (τ13.2.1 16) (τ13.2.1 27) (τ13.2.1 28) (τ13.2.1 29) (τ13.2.1 30) (τ13.2.1 31) (τ13.2.1 32) from by (first | (intro z; exfalso; omega) | exact q1_20 | exact q4_20 | exact q7_20 | (intro z y; have w := q15_2 z; exfalso; omega) | (intro z y; exfalso; omega) | (first | (intro z; exfalso; omega) | (intro z y; exfalso; omega) | exact fun _ => frx | (intro z y; exact frx (by omega)) | (intro z y; have w := frx (by omega); rw [W7, W13, W14, W24, G13, G14, G15, G16, G27, G28, G29, G30, G31, G32]; exact w)) | fail)), (show x12 = 0 → 6 ≤ (τ13.1 35) → J_sp (τ13.1 24) (τ13.1 21) (τ13.1 23) (τ13.1 22) (τ13.2.1 49) (τ13.2.1 51) ∧ ((τ13.1 16) + (τ13.1 21) ≤ 20000) ∧ (¬ (τ13.1 27) = 0 → 1 ≤ (τ13.1 21) ∧ 0 ≤ τ13.2.1 49 ((τ13.1 21) - 1) ∧ τ13.2.1 49 ((τ13.1 21) - 1) < 65536) ∧ ((τ13.1 26) ≤ 1000000) ∧ ((τ13.1 25) ≤ 2 → (τ13.1 27) = 0) from by (first | (intro z; exfalso; omega) | exact q1_21 | exact q4_21 | exact q7_21 | (intro z y; have w := q15_2 z; exfalso; omega) | (intro z y; exfalso; omega) | (first | (intro z; exfalso; omega) | (intro z y; exfalso; omega) | exact fun _ => spx | (intro z y; exact spx (by omega))) | fail)), (show x12 = 0 → (τ13.1 15) ≤ (τ13.1 16) ∧ τ13.2.1 36 (τ13.1 15) ≤ (τ13.1 16) from by (first | (intro z; exfalso; omega) | exact q1_22 | exact q4_22 | exact q7_22 | (intro z; first | exact sux | omega) | fail)), (show x12 = 0 → (τ13.1 9) ≤ (τ13.1 7) from by (first | (intro z; exfalso; omega) | exact q1_23 | exact q4_23 | exact q7_23 | (intro z; omega) | fail)), (show j_rr ((σ.1 5)) (σ.2.1 10) (τ13.2.1 10) from by (first | exact j_rr0 _ _ | exact q1_24 | exact q4_24 | exact q7_24 | (rw [G10]; exact j_rr0 _ _) | fail)), (show j_eq (σ.2.1 36 (σ.1 15)) (σ.2.1 37) (τ13.2.1 37) from CH), (show (τ13.1 12) ≤ (σ.1 12) + 1 from by (first | assumption | omega | (simp only [st_s] <;> omega) | fail)), (show c_Y σ τ13 from by (first | exact c_Y0 _ | exact c_Y_g W4 G11 G20 G22 G25 | exact q1_27 | exact q4_27 | exact q7_27 | exact c_Y_g (by omega) (by rw [g11_τ4]) (by rw [g20_τ4]) (by rw [g22_τ4]) (by rw [g25_τ4]) | exact c_Y_g (by omega) (by rw [g11_τ13]) (by rw [g20_τ13]) (by rw [g22_τ13]) (by rw [g25_τ13]) | exact c_Y_g (by omega) (by rw [g11_τ17]) (by rw [g20_τ17]) (by rw [g22_τ17]) (by rw [g25_τ17]) | fail)), ag⟩
  ·
    refine h109 _ _ ?_
    refine ⟨fun c10 => ?_, fun c10 => ?_⟩
    ·
      exact ⟨hT, (show 0 ≤ 4 ∧ 4 ≤ 19 from by (first | assumption | omega | (simp only [st_s] <;> omega) | fail)), (show J_ht (σ.1 3) (σ.2.1 2) (σ.2.1 3) (σ.2.1 5) (σ.2.1 6) from HT), (show J_mn (σ.1 3) (σ.1 5) ((σ.1 7) + 1) (σ.2.1 4) from MN), (show J_rks (σ.1 5) (σ.1 4) (σ.2.1 10) (σ.2.1 11) from RKS), (show J_vs (σ.1 8) (σ.1 5) (σ.2.1 20) from VS), (show J_vs (σ.1 6) (σ.1 5) (σ.2.1 15) from TX), (show J_va (σ.1 8) 1000 (σ.2.1 18) (σ.2.1 20) from VA), (show J_mk (σ.1 11) (σ.1 8) (σ.1 9) (σ.1 10) (σ.2.1 25) from MK), (show J_sc (σ.1 7) (σ.1 9) (σ.2.1 13) (σ.2.1 14) (σ.2.1 15) (σ.2.1 16) (σ.2.1 22) (σ.2.1 19) from SC), (show J_ff (σ.1 5) (σ.1 7) (σ.2.1 9) (σ.2.1 13) (σ.2.1 14) (σ.2.1 15) from FF), (show ∀ s : Int, σ.2.1 26 s ≤ (σ.1 12) from MT), (show J_all (σ.1 7) (σ.1 6) (σ.1 13) (σ.1 14) (σ.1 15) (σ.2.1 13) (σ.2.1 14) (σ.2.1 15) (σ.2.1 16) (σ.2.1 10) (σ.2.1 27) (σ.2.1 28) (σ.2.1 29) (σ.2.1 30) (σ.2.1 31) (σ.2.1 32) (σ.2.1 33) (σ.2.1 34) (σ.2.1 35) (σ.2.1 36) (σ.2.1 37) from CJ), (show J_bp (σ.2.1 44) (σ.2.1 45) from BP), (show J_nl (σ.1 3) (σ.2.1 2) (σ.2.1 3) (σ.2.1 4) from NL), (show 4 = 0 → J_rs (σ.1 35) (σ.1 7) (σ.1 6) (σ.1 36) (σ.1 37) (σ.1 5) (σ.1 8) (σ.2.1 14) from by (first | (intro z; exfalso; omega) | exact q1_15 | exact q4_15 | exact q7_15 | (intro z; have w := q15_2 z; unfold J_rs; rw [G14, W7]; omega) | (intro z; unfold J_rs; rw [G14, W7]; omega) | (first | (intro z; exfalso; omega) | (intro z; unfold J_rs; omega) | (intro z; unfold J_rs; rw [G14, W7]; omega)) | fail)), (show 4 = 0 → 5 ≤ (σ.1 35) → 1 ≤ (σ.1 36) → 0 ≤ σ.2.1 10 (σ.2.1 15 (σ.2.1 14 (σ.1 7))) from by (first | (intro z; exfalso; omega) | exact q1_16 | exact q4_16 | exact q7_16 | (intro z y y2; exfalso; omega) | (intro z y; have w := q15_2 z; exfalso; omega) | (first | (intro z; exfalso; omega) | (intro z y; exfalso; omega) | exact fun _ => uc | (intro z y y2; exact uc (by omega) (by omega)) | (intro z y y2; exfalso; omega) | (intro z y y2; rw [G10, G14, G15, W7]; exact uc (by omega) (by omega))) | fail)), (show 4 = 0 → (σ.1 35) = 4 → j_in (σ.1 36) 1000 (σ.2.1 54) from by (first | (intro z; exfalso; omega) | exact q1_17 | exact q4_17 | exact q7_17 | (intro z y; rw [show τ17.1 36 = 0 from (q15_2 z).1]; exact j_in0 _ _) | (first | (intro z; exfalso; omega) | (intro z y; exfalso; omega) | exact fun _ => dj) | fail)), (show 4 = 0 → 5 ≤ (σ.1 35) → J_ip (σ.1 7) (σ.1 6) (σ.1 37) (σ.2.1 14) (σ.2.1 15) (σ.2.1 16) (σ.2.1 19) from by (first | (intro z; exfalso; omega) | exact q1_18 | exact q4_18 | exact q7_18 | (intro z y; have w := q15_2 z; exfalso; omega) | (intro z y; exact J_ip0 (by rw [W6, G14, W7]; omega)) | (first | (intro z; exfalso; omega) | (intro z y; exfalso; omega) | exact fun _ => ipx | (intro z y; exact ipx (by omega)) | (intro z y; rw [W7, W6, W37, G14, G15, G16, G19]; exact ipx (by omega))) | fail)), (show 4 = 0 → ((σ.1 35) ≤ 5 → (σ.1 13) ≤ 60 * (σ.1 7)) ∧ (σ.1 13) ≤ 60 * (σ.1 7) + 60 from by (first | (intro z; exfalso; omega) | exact q1_19 | exact q4_19 | exact q7_19 | (intro z; omega) | fail)), (show 4 = 0 → 6 ≤ (σ.1 35) → (σ.1 24) = (σ.1 7) ∧ J_f (σ.1 7) (σ.1 13) (σ.1 14) (σ.2.1 13) (σ.2.1 14) (σ.2.1 15) (σ.2.1 16) (σ.2.1 27) (σ.2.1 28) (σ.2.1 29) (σ.2.1 30) (σ.2.1 31) (σ.2.1 32) from by (first | (intro z; exfalso; omega) | exact q1_20 | exact q4_20 | exact q7_20 | (intro z y; have w := q15_2 z; exfalso; omega) | (intro z y; exfalso; omega) | (first | (intro z; exfalso; omega) | (intro z y; exfalso; omega) | exact fun _ => frx | (intro z y; exact frx (by omega)) | (intro z y; have w := frx (by omega); rw [W7, W13, W14, W24, G13, G14, G15, G16, G27, G28, G29, G30, G31, G32]; exact w)) | fail)), (show 4 = 0 → 6 ≤ (σ.1 35) → J_sp (σ.1 24) (σ.1 21) (σ.1 23) (σ.1 22) (σ.2.1 49) (σ.2.1 51) ∧ ((σ.1 16) + (σ.1 21) ≤ 20000) ∧ (¬ (σ.1 27) = 0 → 1 ≤ (σ.1 21) ∧ 0 ≤ σ.2.1 49 ((σ.1 21) - 1) ∧ σ.2.1 49 ((σ.1 21) - 1) < 65536) ∧ ((σ.1 26) ≤ 1000000) ∧ ((σ.1 25) ≤ 2 → (σ.1 27) = 0) from by (first | (intro z; exfalso; omega) | exact q1_21 | exact q4_21 | exact q7_21 | (intro z y; have w := q15_2 z; exfalso; omega) | (intro z y; exfalso; omega) | (first | (intro z; exfalso; omega) | (intro z y; exfalso; omega) | exact fun _ => spx | (intro z y; exact spx (by omega))) | fail)), (show 4 = 0 → (σ.1 15) ≤ (σ.1 16) ∧ σ.2.1 36 (σ.1 15) ≤ (σ.1 16) from by (first | (intro z; exfalso; omega) | exact q1_22 | exact q4_22 | exact q7_22 | (intro z; first | exact sux | omega) | fail)), (show 4 = 0 → (σ.1 9) ≤ (σ.1 7) from by (first | (intro z; exfalso; omega) | exact q1_23 | exact q4_23 | exact q7_23 | (intro z; omega) | fail)), (show j_rr ((σ.1 5)) (σ.2.1 10) (σ.2.1 10) from by (first | exact j_rr0 _ _ | exact q1_24 | exact q4_24 | exact q7_24 | (rw [G10]; exact j_rr0 _ _) | fail)), (show j_eq (σ.2.1 36 (σ.1 15)) (σ.2.1 37) (σ.2.1 37) from CH), (show (σ.1 12) ≤ (σ.1 12) + 1 from by (first | assumption | omega | (simp only [st_s] <;> omega) | fail)), (show c_Y σ σ from by (first | exact c_Y0 _ | exact c_Y_g W4 G11 G20 G22 G25 | exact q1_27 | exact q4_27 | exact q7_27 | exact c_Y_g (by omega) (by rw [g11_τ4]) (by rw [g20_τ4]) (by rw [g22_τ4]) (by rw [g25_τ4]) | exact c_Y_g (by omega) (by rw [g11_τ13]) (by rw [g20_τ13]) (by rw [g22_τ13]) (by rw [g25_τ13]) | exact c_Y_g (by omega) (by rw [g11_τ17]) (by rw [g20_τ17]) (by rw [g22_τ17]) (by rw [g25_τ17]) | fail)), ag⟩
    ·
      refine ⟨_, K2_X7_statement hT, ?_⟩
      intro x12 τ13 r_x12 hn_τ13 hf_τ13 hq
      obtain ⟨hT, q11_1, q11_2, q11_3⟩ := hq
      replace q11_1 : x12 = 0 := q11_1
      replace q11_2 : (τ13.1 36) = 0 := q11_2
      replace q11_3 : (τ13.1 35) = 5 := q11_3
      replace ag : c_ag σ τ13 := ag_r ag hf_τ13 rfl rfl
      have w3_τ13 : τ13.1 3 = σ.1 3 := hf_τ13.1 3 (by decide)
      have w4_τ13 : τ13.1 4 = σ.1 4 := hf_τ13.1 4 (by decide)
      have w5_τ13 : τ13.1 5 = σ.1 5 := hf_τ13.1 5 (by decide)
      have w6_τ13 : τ13.1 6 = σ.1 6 := hf_τ13.1 6 (by decide)
      have w7_τ13 : τ13.1 7 = σ.1 7 := hf_τ13.1 7 (by decide)
      have w8_τ13 : τ13.1 8 = σ.1 8 := hf_τ13.1 8 (by decide)
      have w9_τ13 : τ13.1 9 = σ.1 9 := hf_τ13.1 9 (by decide)
      have w10_τ13 : τ13.1 10 = σ.1 10 := hf_τ13.1 10 (by decide)
      have w11_τ13 : τ13.1 11 = σ.1 11 := hf_τ13.1 11 (by decide)
      have w12_τ13 : τ13.1 12 = σ.1 12 := hf_τ13.1 12 (by decide)
      have w13_τ13 : τ13.1 13 = σ.1 13 := hf_τ13.1 13 (by decide)
      have w14_τ13 : τ13.1 14 = σ.1 14 := hf_τ13.1 14 (by decide)
      have w15_τ13 : τ13.1 15 = σ.1 15 := hf_τ13.1 15 (by decide)
      have w16_τ13 : τ13.1 16 = σ.1 16 := hf_τ13.1 16 (by decide)
      have w21_τ13 : τ13.1 21 = σ.1 21 := hf_τ13.1 21 (by decide)
      have w22_τ13 : τ13.1 22 = σ.1 22 := hf_τ13.1 22 (by decide)
      have w23_τ13 : τ13.1 23 = σ.1 23 := hf_τ13.1 23 (by decide)
      have w24_τ13 : τ13.1 24 = σ.1 24 := hf_τ13.1 24 (by decide)
      have w25_τ13 : τ13.1 25 = σ.1 25 := hf_τ13.1 25 (by decide)
      have w26_τ13 : τ13.1 26 = σ.1 26 := hf_τ13.1 26 (by decide)
      have w27_τ13 : τ13.1 27 = σ.1 27 := hf_τ13.1 27 (by decide)
      have g2_τ13 : τ13.2.1 2 = σ.2.1 2 := hf_τ13.2.1 2 (by decide)
      have g3_τ13 : τ13.2.1 3 = σ.2.1 3 := hf_τ13.2.1 3 (by decide)
      have g4_τ13 : τ13.2.1 4 = σ.2.1 4 := hf_τ13.2.1 4 (by decide)
      have g5_τ13 : τ13.2.1 5 = σ.2.1 5 := hf_τ13.2.1 5 (by decide)
      have g6_τ13 : τ13.2.1 6 = σ.2.1 6 := hf_τ13.2.1 6 (by decide)
      have g8_τ13 : τ13.2.1 8 = σ.2.1 8 := hf_τ13.2.1 8 (by decide)
      have g9_τ13 : τ13.2.1 9 = σ.2.1 9 := hf_τ13.2.1 9 (by decide)
      have g10_τ13 : τ13.2.1 10 = σ.2.1 10 := hf_τ13.2.1 10 (by decide)
      have g11_τ13 : τ13.2.1 11 = σ.2.1 11 := hf_τ13.2.1 11 (by decide)
      have g13_τ13 : τ13.2.1 13 = σ.2.1 13 := hf_τ13.2.1 13 (by decide)
      have g14_τ13 : τ13.2.1 14 = σ.2.1 14 := hf_τ13.2.1 14 (by decide)
      have g15_τ13 : τ13.2.1 15 = σ.2.1 15 := hf_τ13.2.1 15 (by decide)
      have g16_τ13 : τ13.2.1 16 = σ.2.1 16 := hf_τ13.2.1 16 (by decide)
      have g18_τ13 : τ13.2.1 18 = σ.2.1 18 := hf_τ13.2.1 18 (by decide)
      have g19_τ13 : τ13.2.1 19 = σ.2.1 19 := hf_τ13.2.1 19 (by decide)
      have g20_τ13 : τ13.2.1 20 = σ.2.1 20 := hf_τ13.2.1 20 (by decide)
      have g22_τ13 : τ13.2.1 22 = σ.2.1 22 := hf_τ13.2.1 22 (by decide)
      have g23_τ13 : τ13.2.1 23 = σ.2.1 23 := hf_τ13.2.1 23 (by decide)
      have g24_τ13 : τ13.2.1 24 = σ.2.1 24 := hf_τ13.2.1 24 (by decide)
      have g25_τ13 : τ13.2.1 25 = σ.2.1 25 := hf_τ13.2.1 25 (by decide)
      have g26_τ13 : τ13.2.1 26 = σ.2.1 26 := hf_τ13.2.1 26 (by decide)
      have g27_τ13 : τ13.2.1 27 = σ.2.1 27 := hf_τ13.2.1 27 (by decide)
      have g28_τ13 : τ13.2.1 28 = σ.2.1 28 := hf_τ13.2.1 28 (by decide)
      have g29_τ13 : τ13.2.1 29 = σ.2.1 29 := hf_τ13.2.1 29 (by decide)
      have g30_τ13 : τ13.2.1 30 = σ.2.1 30 := hf_τ13.2.1 30 (by decide)
      have g31_τ13 : τ13.2.1 31 = σ.2.1 31 := hf_τ13.2.1 31 (by decide)
      have g32_τ13 : τ13.2.1 32 = σ.2.1 32 := hf_τ13.2.1 32 (by decide)
      have g33_τ13 : τ13.2.1 33 = σ.2.1 33 := hf_τ13.2.1 33 (by decide)
      have g34_τ13 : τ13.2.1 34 = σ.2.1 34 := hf_τ13.2.1 34 (by decide)
      have g35_τ13 : τ13.2.1 35 = σ.2.1 35 := hf_τ13.2.1 35 (by decide)
      have g36_τ13 : τ13.2.1 36 = σ.2.1 36 := hf_τ13.2.1 36 (by decide)
      have g37_τ13 : τ13.2.1 37 = σ.2.1 37 := hf_τ13.2.1 37 (by decide)
      have g44_τ13 : τ13.2.1 44 = σ.2.1 44 := hf_τ13.2.1 44 (by decide)
      have g45_τ13 : τ13.2.1 45 = σ.2.1 45 := hf_τ13.2.1 45 (by decide)
      have g49_τ13 : τ13.2.1 49 = σ.2.1 49 := hf_τ13.2.1 49 (by decide)
      have g51_τ13 : τ13.2.1 51 = σ.2.1 51 := hf_τ13.2.1 51 (by decide)
      have g54_τ13 : τ13.2.1 54 = σ.2.1 54 := hf_τ13.2.1 54 (by decide)
      have W3 : τ13.1 3 = σ.1 3 := by omega
      have W4 : τ13.1 4 = σ.1 4 := by omega
      have W5 : τ13.1 5 = σ.1 5 := by omega
      have W6 : τ13.1 6 = σ.1 6 := by omega
      have W7 : τ13.1 7 = σ.1 7 := by omega
      have W15 : τ13.1 15 = σ.1 15 := by omega
      have W16 : τ13.1 16 = σ.1 16 := by omega
      have G2 : τ13.2.1 2 = σ.2.1 2 := (g2_τ13).trans G2
      have G3 : τ13.2.1 3 = σ.2.1 3 := (g3_τ13).trans G3
      have G4 : τ13.2.1 4 = σ.2.1 4 := (g4_τ13).trans G4
      have G5 : τ13.2.1 5 = σ.2.1 5 := (g5_τ13).trans G5
      have G6 : τ13.2.1 6 = σ.2.1 6 := (g6_τ13).trans G6
      have G8 : τ13.2.1 8 = σ.2.1 8 := (g8_τ13).trans G8
      have G9 : τ13.2.1 9 = σ.2.1 9 := (g9_τ13).trans G9
      have G10 : τ13.2.1 10 = σ.2.1 10 := (g10_τ13).trans G10
      have G11 : τ13.2.1 11 = σ.2.1 11 := (g11_τ13).trans G11
      have G13 : τ13.2.1 13 = σ.2.1 13 := (g13_τ13).trans G13
      have G14 : τ13.2.1 14 = σ.2.1 14 := (g14_τ13).trans G14
      have G15 : τ13.2.1 15 = σ.2.1 15 := (g15_τ13).trans G15
      have G16 : τ13.2.1 16 = σ.2.1 16 := (g16_τ13).trans G16
      have G20 : τ13.2.1 20 = σ.2.1 20 := (g20_τ13).trans G20
      have G22 : τ13.2.1 22 = σ.2.1 22 := (g22_τ13).trans G22
      have G23 : τ13.2.1 23 = σ.2.1 23 := (g23_τ13).trans G23
      have G24 : τ13.2.1 24 = σ.2.1 24 := (g24_τ13).trans G24
      have G33 : τ13.2.1 33 = σ.2.1 33 := (g33_τ13).trans G33
      have G34 : τ13.2.1 34 = σ.2.1 34 := (g34_τ13).trans G34
      have G35 : τ13.2.1 35 = σ.2.1 35 := (g35_τ13).trans G35
      have G36 : τ13.2.1 36 = σ.2.1 36 := (g36_τ13).trans G36
      have G37 : τ13.2.1 37 = σ.2.1 37 := (g37_τ13).trans G37
      have G44 : τ13.2.1 44 = σ.2.1 44 := (g44_τ13).trans G44
      have G45 : τ13.2.1 45 = σ.2.1 45 := (g45_τ13).trans G45
      have G49 : τ13.2.1 49 = σ.2.1 49 := (g49_τ13).trans G49
      have G51 : τ13.2.1 51 = σ.2.1 51 := (g51_τ13).trans G51
      have G54 : τ13.2.1 54 = σ.2.1 54 := (g54_τ13).trans G54
      have y14_7_τ13 : τ13.2.1 14 (τ13.1 7) = (σ.2.1 14) (σ.1 7) := by rw [g14_τ13, w7_τ13]
      have y36_15_τ13 : τ13.2.1 36 (τ13.1 15) = (σ.2.1 36) (σ.1 15) := by rw [g36_τ13, w15_τ13]
      have HT : J_ht (τ13.1 3) (τ13.2.1 2) (τ13.2.1 3) (τ13.2.1 5) (τ13.2.1 6) := by rw [show (J_ht (τ13.1 3) (τ13.2.1 2) (τ13.2.1 3) (τ13.2.1 5) (τ13.2.1 6)) = (J_ht (σ.1 3) (σ.2.1 2) (σ.2.1 3) (σ.2.1 5) (σ.2.1 6)) from by rw [w3_τ13, g2_τ13, g3_τ13, g5_τ13, g6_τ13]]; exact HT
      have NL : J_nl (τ13.1 3) (τ13.2.1 2) (τ13.2.1 3) (τ13.2.1 4) := by rw [show (J_nl (τ13.1 3) (τ13.2.1 2) (τ13.2.1 3) (τ13.2.1 4)) = (J_nl (σ.1 3) (σ.2.1 2) (σ.2.1 3) (σ.2.1 4)) from by rw [w3_τ13, g2_τ13, g3_τ13, g4_τ13]]; exact NL
      have MN : J_mn (τ13.1 3) (τ13.1 5) ((τ13.1 7) + 1) (τ13.2.1 4) := by rw [show (J_mn (τ13.1 3) (τ13.1 5) ((τ13.1 7) + 1) (τ13.2.1 4)) = (J_mn (σ.1 3) (σ.1 5) ((σ.1 7) + 1) (σ.2.1 4)) from by rw [w3_τ13, w5_τ13, w7_τ13, g4_τ13]]; exact MN
      have VA : J_va (τ13.1 8) 1000 (τ13.2.1 18) (τ13.2.1 20) := by rw [show (J_va (τ13.1 8) 1000 (τ13.2.1 18) (τ13.2.1 20)) = (J_va (σ.1 8) 1000 (σ.2.1 18) (σ.2.1 20)) from by rw [w8_τ13, g18_τ13, g20_τ13]]; exact VA
      have SC : J_sc (τ13.1 7) (τ13.1 9) (τ13.2.1 13) (τ13.2.1 14) (τ13.2.1 15) (τ13.2.1 16) (τ13.2.1 22) (τ13.2.1 19) := by rw [show (J_sc (τ13.1 7) (τ13.1 9) (τ13.2.1 13) (τ13.2.1 14) (τ13.2.1 15) (τ13.2.1 16) (τ13.2.1 22) (τ13.2.1 19)) = (J_sc (σ.1 7) (σ.1 9) (σ.2.1 13) (σ.2.1 14) (σ.2.1 15) (σ.2.1 16) (σ.2.1 22) (σ.2.1 19)) from by rw [w7_τ13, w9_τ13, g13_τ13, g14_τ13, g15_τ13, g16_τ13, g19_τ13, g22_τ13]]; exact SC
      have MK : J_mk (τ13.1 11) (τ13.1 8) (τ13.1 9) (τ13.1 10) (τ13.2.1 25) := by rw [show (J_mk (τ13.1 11) (τ13.1 8) (τ13.1 9) (τ13.1 10) (τ13.2.1 25)) = (J_mk (σ.1 11) (σ.1 8) (σ.1 9) (σ.1 10) (σ.2.1 25)) from by rw [w8_τ13, w9_τ13, w10_τ13, w11_τ13, g25_τ13]]; exact MK
      have FF : J_ff (τ13.1 5) (τ13.1 7) (τ13.2.1 9) (τ13.2.1 13) (τ13.2.1 14) (τ13.2.1 15) := by rw [show (J_ff (τ13.1 5) (τ13.1 7) (τ13.2.1 9) (τ13.2.1 13) (τ13.2.1 14) (τ13.2.1 15)) = (J_ff (σ.1 5) (σ.1 7) (σ.2.1 9) (σ.2.1 13) (σ.2.1 14) (σ.2.1 15)) from by rw [w5_τ13, w7_τ13, g9_τ13, g13_τ13, g14_τ13, g15_τ13]]; exact FF
      have MT : ∀ s : Int, τ13.2.1 26 s ≤ (τ13.1 12) := by rw [show (∀ s : Int, τ13.2.1 26 s ≤ (τ13.1 12)) = (∀ s : Int, σ.2.1 26 s ≤ (σ.1 12)) from by rw [w12_τ13, g26_τ13]]; exact MT
      have VS : J_vs (τ13.1 8) (τ13.1 5) (τ13.2.1 20) := by rw [show (J_vs (τ13.1 8) (τ13.1 5) (τ13.2.1 20)) = (J_vs (σ.1 8) (σ.1 5) (σ.2.1 20)) from by rw [w5_τ13, w8_τ13, g20_τ13]]; exact VS
      have TX : J_vs (τ13.1 6) (τ13.1 5) (τ13.2.1 15) := by rw [show (J_vs (τ13.1 6) (τ13.1 5) (τ13.2.1 15)) = (J_vs (σ.1 6) (σ.1 5) (σ.2.1 15)) from by rw [w5_τ13, w6_τ13, g15_τ13]]; exact TX
      have RKS : J_rks (τ13.1 5) (τ13.1 4) (τ13.2.1 10) (τ13.2.1 11) := by rw [show (J_rks (τ13.1 5) (τ13.1 4) (τ13.2.1 10) (τ13.2.1 11)) = (J_rks (σ.1 5) (σ.1 4) (σ.2.1 10) (σ.2.1 11)) from by rw [w4_τ13, w5_τ13, g10_τ13, g11_τ13]]; exact RKS
      have CJ : J_all (τ13.1 7) (τ13.1 6) (τ13.1 13) (τ13.1 14) (τ13.1 15) (τ13.2.1 13) (τ13.2.1 14) (τ13.2.1 15) (τ13.2.1 16) (τ13.2.1 10) (τ13.2.1 27) (τ13.2.1 28) (τ13.2.1 29) (τ13.2.1 30) (τ13.2.1 31) (τ13.2.1 32) (τ13.2.1 33) (τ13.2.1 34) (τ13.2.1 35) (τ13.2.1 36) (τ13.2.1 37) := by rw [show (J_all (τ13.1 7) (τ13.1 6) (τ13.1 13) (τ13.1 14) (τ13.1 15) (τ13.2.1 13) (τ13.2.1 14) (τ13.2.1 15) (τ13.2.1 16) (τ13.2.1 10) (τ13.2.1 27) (τ13.2.1 28) (τ13.2.1 29) (τ13.2.1 30) (τ13.2.1 31) (τ13.2.1 32) (τ13.2.1 33) (τ13.2.1 34) (τ13.2.1 35) (τ13.2.1 36) (τ13.2.1 37)) = (J_all (σ.1 7) (σ.1 6) (σ.1 13) (σ.1 14) (σ.1 15) (σ.2.1 13) (σ.2.1 14) (σ.2.1 15) (σ.2.1 16) (σ.2.1 10) (σ.2.1 27) (σ.2.1 28) (σ.2.1 29) (σ.2.1 30) (σ.2.1 31) (σ.2.1 32) (σ.2.1 33) (σ.2.1 34) (σ.2.1 35) (σ.2.1 36) (σ.2.1 37)) from by rw [w6_τ13, w7_τ13, w13_τ13, w14_τ13, w15_τ13, g10_τ13, g13_τ13, g14_τ13, g15_τ13, g16_τ13, g27_τ13, g28_τ13, g29_τ13, g30_τ13, g31_τ13, g32_τ13, g33_τ13, g34_τ13, g35_τ13, g36_τ13, g37_τ13]]; exact CJ
      have BP : J_bp (τ13.2.1 44) (τ13.2.1 45) := by rw [show (J_bp (τ13.2.1 44) (τ13.2.1 45)) = (J_bp (σ.2.1 44) (σ.2.1 45)) from by rw [g44_τ13, g45_τ13]]; exact BP
      have CH : j_eq (σ.2.1 36 (σ.1 15)) (σ.2.1 37) (τ13.2.1 37) := by rw [show (j_eq (σ.2.1 36 (σ.1 15)) (σ.2.1 37) (τ13.2.1 37)) = (j_eq (σ.2.1 36 (σ.1 15)) (σ.2.1 37) (σ.2.1 37)) from by rw [g37_τ13]]; exact CH
      have A2 : ∀ j, 0 ≤ τ13.2.1 2 j ∧ τ13.2.1 2 j ≤ 65535 := fun j => hT.2 2 j
      have A3 : ∀ j, 0 ≤ τ13.2.1 3 j ∧ τ13.2.1 3 j ≤ 30000 := fun j => hT.2 3 j
      have A4 : ∀ j, (-1000) ≤ τ13.2.1 4 j ∧ τ13.2.1 4 j ≤ 1499 := fun j => hT.2 4 j
      have A5 : ∀ j, 0 ≤ τ13.2.1 5 j ∧ τ13.2.1 5 j ≤ 2500 := fun j => hT.2 5 j
      have A6 : ∀ j, 0 ≤ τ13.2.1 6 j ∧ τ13.2.1 6 j ≤ 2500 := fun j => hT.2 6 j
      have A8 : ∀ j, 0 ≤ τ13.2.1 8 j ∧ τ13.2.1 8 j ≤ 1 := fun j => hT.2 8 j
      have A9 : ∀ j, (-1) ≤ τ13.2.1 9 j ∧ τ13.2.1 9 j ≤ 1499 := fun j => hT.2 9 j
      have A10 : ∀ j, (-1) ≤ τ13.2.1 10 j ∧ τ13.2.1 10 j ≤ 99 := fun j => hT.2 10 j
      have A11 : ∀ j, 0 ≤ τ13.2.1 11 j ∧ τ13.2.1 11 j ≤ 999 := fun j => hT.2 11 j
      have A13 : ∀ j, 0 ≤ τ13.2.1 13 j ∧ τ13.2.1 13 j ≤ 4 := fun j => hT.2 13 j
      have A14 : ∀ j, 0 ≤ τ13.2.1 14 j ∧ τ13.2.1 14 j ≤ 30000 := fun j => hT.2 14 j
      have A15 : ∀ j, 0 ≤ τ13.2.1 15 j ∧ τ13.2.1 15 j ≤ 999 := fun j => hT.2 15 j
      have A16 : ∀ j, (-1) ≤ τ13.2.1 16 j ∧ τ13.2.1 16 j ≤ 1499 := fun j => hT.2 16 j
      have A18 : ∀ j, 0 ≤ τ13.2.1 18 j ∧ τ13.2.1 18 j ≤ 1 := fun j => hT.2 18 j
      have A19 : ∀ j, (-1) ≤ τ13.2.1 19 j ∧ τ13.2.1 19 j ≤ 1499 := fun j => hT.2 19 j
      have A20 : ∀ j, 0 ≤ τ13.2.1 20 j ∧ τ13.2.1 20 j ≤ 999 := fun j => hT.2 20 j
      have A22 : ∀ j, 0 ≤ τ13.2.1 22 j ∧ τ13.2.1 22 j ≤ 1499 := fun j => hT.2 22 j
      have A23 : ∀ j, 0 ≤ τ13.2.1 23 j ∧ τ13.2.1 23 j ≤ 999 := fun j => hT.2 23 j
      have A24 : ∀ j, 0 ≤ τ13.2.1 24 j ∧ τ13.2.1 24 j ≤ 999 := fun j => hT.2 24 j
      have A26 : ∀ j, (-2147483648) ≤ τ13.2.1 26 j ∧ τ13.2.1 26 j ≤ 2147483647 := fun j => hT.2 26 j
      have A27 : ∀ j, 0 ≤ τ13.2.1 27 j ∧ τ13.2.1 27 j ≤ 90000 := fun j => hT.2 27 j
      have A28 : ∀ j, 0 ≤ τ13.2.1 28 j ∧ τ13.2.1 28 j ≤ 60 := fun j => hT.2 28 j
      have A29 : ∀ j, 0 ≤ τ13.2.1 29 j ∧ τ13.2.1 29 j ≤ 1499 := fun j => hT.2 29 j
      have A30 : ∀ j, 0 ≤ τ13.2.1 30 j ∧ τ13.2.1 30 j ≤ 20000 := fun j => hT.2 30 j
      have A31 : ∀ j, 0 ≤ τ13.2.1 31 j ∧ τ13.2.1 31 j ≤ 20000 := fun j => hT.2 31 j
      have A32 : ∀ j, 0 ≤ τ13.2.1 32 j ∧ τ13.2.1 32 j ≤ 999999 := fun j => hT.2 32 j
      have A33 : ∀ j, 0 ≤ τ13.2.1 33 j ∧ τ13.2.1 33 j ≤ 20000 := fun j => hT.2 33 j
      have A34 : ∀ j, 0 ≤ τ13.2.1 34 j ∧ τ13.2.1 34 j ≤ 20000 := fun j => hT.2 34 j
      have A35 : ∀ j, 0 ≤ τ13.2.1 35 j ∧ τ13.2.1 35 j ≤ 1499 := fun j => hT.2 35 j
      have A36 : ∀ j, 0 ≤ τ13.2.1 36 j ∧ τ13.2.1 36 j ≤ 20000 := fun j => hT.2 36 j
      have A37 : ∀ j, 0 ≤ τ13.2.1 37 j ∧ τ13.2.1 37 j ≤ 19999 := fun j => hT.2 37 j
      have A44 : ∀ j, 0 ≤ τ13.2.1 44 j ∧ τ13.2.1 44 j ≤ 42000 := fun j => hT.2 44 j
      have A45 : ∀ j, 0 ≤ τ13.2.1 45 j ∧ τ13.2.1 45 j ≤ 1000 := fun j => hT.2 45 j
      have A49 : ∀ j, (-300) ≤ τ13.2.1 49 j ∧ τ13.2.1 49 j ≤ 67035 := fun j => hT.2 49 j
      have A51 : ∀ j, 0 ≤ τ13.2.1 51 j ∧ τ13.2.1 51 j ≤ 1499 := fun j => hT.2 51 j
      have A54 : ∀ j, 0 ≤ τ13.2.1 54 j ∧ τ13.2.1 54 j ≤ 999 := fun j => hT.2 54 j
      have v3 : 0 ≤ τ13.1 3 ∧ τ13.1 3 ≤ 2500 := hT.1 3
      have v4 : 0 ≤ τ13.1 4 ∧ τ13.1 4 ≤ 100 := hT.1 4
      have v5 : 0 ≤ τ13.1 5 ∧ τ13.1 5 ≤ 1000 := hT.1 5
      have v6 : 0 ≤ τ13.1 6 ∧ τ13.1 6 ≤ 30000 := hT.1 6
      have v7 : 0 ≤ τ13.1 7 ∧ τ13.1 7 ≤ 1500 := hT.1 7
      have v8 : 0 ≤ τ13.1 8 ∧ τ13.1 8 ≤ 1000 := hT.1 8
      have v9 : 0 ≤ τ13.1 9 ∧ τ13.1 9 ≤ 1500 := hT.1 9
      have v10 : 0 ≤ τ13.1 10 ∧ τ13.1 10 ≤ 1000 := hT.1 10
      have v11 : 0 ≤ τ13.1 11 ∧ τ13.1 11 ≤ 50 := hT.1 11
      have v12 : (-2147483648) ≤ τ13.1 12 ∧ τ13.1 12 ≤ 2147483647 := hT.1 12
      have v13 : 0 ≤ τ13.1 13 ∧ τ13.1 13 ≤ 90000 := hT.1 13
      have v14 : 0 ≤ τ13.1 14 ∧ τ13.1 14 ≤ 20000 := hT.1 14
      have v15 : 0 ≤ τ13.1 15 ∧ τ13.1 15 ≤ 20000 := hT.1 15
      have v16 : 0 ≤ τ13.1 16 ∧ τ13.1 16 ≤ 20000 := hT.1 16
      have v21 : 0 ≤ τ13.1 21 ∧ τ13.1 21 ≤ 20000 := hT.1 21
      have v22 : 0 ≤ τ13.1 22 ∧ τ13.1 22 ≤ 300 := hT.1 22
      have v23 : 0 ≤ τ13.1 23 ∧ τ13.1 23 ≤ 300 := hT.1 23
      have v24 : 0 ≤ τ13.1 24 ∧ τ13.1 24 ≤ 1499 := hT.1 24
      have v25 : 0 ≤ τ13.1 25 ∧ τ13.1 25 ≤ 3 := hT.1 25
      have v26 : 0 ≤ τ13.1 26 ∧ τ13.1 26 ≤ 5000010 := hT.1 26
      have v27 : 0 ≤ τ13.1 27 ∧ τ13.1 27 ≤ 1 := hT.1 27
      have v35 : 0 ≤ τ13.1 35 ∧ τ13.1 35 ≤ 7 := hT.1 35
      have v36 : 0 ≤ τ13.1 36 ∧ τ13.1 36 ≤ 1001 := hT.1 36
      have v37 : 0 ≤ τ13.1 37 ∧ τ13.1 37 ≤ 4 := hT.1 37
      have a14_7 : 0 ≤ τ13.2.1 14 (τ13.1 7) ∧ τ13.2.1 14 (τ13.1 7) ≤ 30000 := hT.2 14 _
      have a36_15 : 0 ≤ τ13.2.1 36 (τ13.1 15) ∧ τ13.2.1 36 (τ13.1 15) ≤ 20000 := hT.2 36 _
      have av13 : σ.1 13 ≤ τ13.1 13 := ag.1 13 (by decide)
      have av14 : σ.1 14 ≤ τ13.1 14 := ag.1 14 (by decide)
      exact ⟨hT, (show 0 ≤ x12 ∧ x12 ≤ 19 from by (first | assumption | omega | (simp only [st_s] <;> omega) | fail)), (show J_ht (τ13.1 3) (τ13.2.1 2) (τ13.2.1 3) (τ13.2.1 5) (τ13.2.1 6) from HT), (show J_mn (τ13.1 3) (τ13.1 5) ((τ13.1 7) + 1) (τ13.2.1 4) from MN), (show J_rks (τ13.1 5) (τ13.1 4) (τ13.2.1 10) (τ13.2.1 11) from RKS), (show J_vs (τ13.1 8) (τ13.1 5) (τ13.2.1 20) from VS), (show J_vs (τ13.1 6) (τ13.1 5) (τ13.2.1 15) from TX), (show J_va (τ13.1 8) 1000 (τ13.2.1 18) (τ13.2.1 20) from VA), (show J_mk (τ13.1 11) (τ13.1 8) (τ13.1 9) (τ13.1 10) (τ13.2.1 25) from MK), (show J_sc (τ13.1 7) (τ13.1 9) (τ13.2.1 13) (τ13.2.1 14) (τ13.2.1 15) (τ13.2.1 16) (τ13.2.1 22) (τ13.2.1 19) from SC), (show J_ff (τ13.1 5) (τ13.1 7) (τ13.2.1 9) (τ13.2.1 13) (τ13.2.1 14) (τ13.2.1 15) from FF), (show ∀ s : Int, τ13.2.1 26 s ≤ (τ13.1 12) from MT), (show J_all (τ13.1 7) (τ13.1 6) (τ13.1 13) (τ13.1 14) (τ13.1 15) (τ13.2.1 13) (τ13.2.1 14) (τ13.2.1 15) (τ13.2.1 16) (τ13.2.1 10) (τ13.2.1 27) (τ13.2.1 28) (τ13.2.1 29) (τ13.2.1 30) (τ13.2.1 31) (τ13.2.1 32) (τ13.2.1 33) (τ13.2.1 34) (τ13.2.1 35) (τ13.2.1 36) (τ13.2.1 37) from CJ), (show J_bp (τ13.2.1 44) (τ13.2.1 45) from BP), (show J_nl (τ13.1 3) (τ13.2.1 2) (τ13.2.1 3) (τ13.2.1 4) from NL), (show x12 = 0 → J_rs (τ13.1 35) (τ13.1 7) (τ13.1 6) (τ13.1 36) (τ13.1 37) (τ13.1 5) (τ13.1 8) (τ13.2.1 14) from by (first | (intro z; exfalso; omega) | exact q1_15 | exact q4_15 | exact q7_15 | (intro z; have w := q15_2 z; unfold J_rs; rw [G14, W7]; omega) | (intro z; unfold J_rs; rw [G14, W7]; omega) | (first | (intro z; exfalso; omega) | (intro z; unfold J_rs; omega) | (intro z; unfold J_rs; rw [G14, W7]; omega)) | fail)), (show x12 = 0 → 5 ≤ (τ13.1 35) → 1 ≤ (τ13.1 36) → 0 ≤ τ13.2.1 10 (τ13.2.1 15 (τ13.2.1 14 (τ13.1 7))) from by (first | (intro z; exfalso; omega) | exact q1_16 | exact q4_16 | exact q7_16 | (intro z y y2; exfalso; omega) | (intro z y; have w := q15_2 z; exfalso; omega) | (first | (intro z; exfalso; omega) | (intro z y; exfalso; omega) | exact fun _ => uc | (intro z y y2; exact uc (by omega) (by omega)) | (intro z y y2; exfalso; omega) | (intro z y y2; rw [G10, G14, G15, W7]; exact uc (by omega) (by omega))) | fail)), (show x12 = 0 → (τ13.1 35) = 4 → j_in (τ13.1 36) 1000 (τ13.2.1 54) from by (first | (intro z; exfalso; omega) | exact q1_17 | exact q4_17 | exact q7_17 | (intro z y; rw [show τ17.1 36 = 0 from (q15_2 z).1]; exact j_in0 _ _) | (first | (intro z; exfalso; omega) | (intro z y; exfalso; omega) | exact fun _ => dj) | fail)), (show x12 = 0 → 5 ≤ (τ13.1 35) → J_ip (τ13.1 7) (τ13.1 6) (τ13.1 37) (τ13.2.1 14) (τ13.2.1 15) (τ13.2.1 16) (τ13.2.1 19) from by (first | (intro z; exfalso; omega) | exact q1_18 | exact q4_18 | exact q7_18 | (intro z y; have w := q15_2 z; exfalso; omega) | (intro z y; exact J_ip0 (by rw [W6, G14, W7]; omega)) | (first | (intro z; exfalso; omega) | (intro z y; exfalso; omega) | exact fun _ => ipx | (intro z y; exact ipx (by omega)) | (intro z y; rw [W7, W6, W37, G14, G15, G16, G19]; exact ipx (by omega))) | fail)), (show x12 = 0 → ((τ13.1 35) ≤ 5 → (τ13.1 13) ≤ 60 * (τ13.1 7)) ∧ (τ13.1 13) ≤ 60 * (τ13.1 7) + 60 from by (first | (intro z; exfalso; omega) | exact q1_19 | exact q4_19 | exact q7_19 | (intro z; omega) | fail)), (show x12 = 0 → 6 ≤ (τ13.1 35) → (τ13.1 24) = (τ13.1 7) ∧ J_f (τ13.1 7) (τ13.1 13) (τ13.1 14) (τ13.2.1 13) (τ13.2.1 14) (τ13.2.1 15) (τ13.2.1 16) (τ13.2.1 27) (τ13.2.1 28) (τ13.2.1 29) (τ13.2.1 30) (τ13.2.1 31) (τ13.2.1 32) from by (first | (intro z; exfalso; omega) | exact q1_20 | exact q4_20 | exact q7_20 | (intro z y; have w := q15_2 z; exfalso; omega) | (intro z y; exfalso; omega) | (first | (intro z; exfalso; omega) | (intro z y; exfalso; omega) | exact fun _ => frx | (intro z y; exact frx (by omega)) | (intro z y; have w := frx (by omega); rw [W7, W13, W14, W24, G13, G14, G15, G16, G27, G28, G29, G30, G31, G32]; exact w)) | fail)), (show x12 = 0 → 6 ≤ (τ13.1 35) → J_sp (τ13.1 24) (τ13.1 21) (τ13.1 23) (τ13.1 22) (τ13.2.1 49) (τ13.2.1 51) ∧ ((τ13.1 16) + (τ13.1 21) ≤ 20000) ∧ (¬ (τ13.1 27) = 0 → 1 ≤ (τ13.1 21) ∧ 0 ≤ τ13.2.1 49 ((τ13.1 21) - 1) ∧ τ13.2.1 49 ((τ13.1 21) - 1) < 65536) ∧ ((τ13.1 26) ≤ 1000000) ∧ ((τ13.1 25) ≤ 2 → (τ13.1 27) = 0) from by (first | (intro z; exfalso; omega) | exact q1_21 | exact q4_21 | exact q7_21 | (intro z y; have w := q15_2 z; exfalso; omega) | (intro z y; exfalso; omega) | (first | (intro z; exfalso; omega) | (intro z y; exfalso; omega) | exact fun _ => spx | (intro z y; exact spx (by omega))) | fail)), (show x12 = 0 → (τ13.1 15) ≤ (τ13.1 16) ∧ τ13.2.1 36 (τ13.1 15) ≤ (τ13.1 16) from by (first | (intro z; exfalso; omega) | exact q1_22 | exact q4_22 | exact q7_22 | (intro z; first | exact sux | omega) | fail)), (show x12 = 0 → (τ13.1 9) ≤ (τ13.1 7) from by (first | (intro z; exfalso; omega) | exact q1_23 | exact q4_23 | exact q7_23 | (intro z; omega) | fail)), (show j_rr ((σ.1 5)) (σ.2.1 10) (τ13.2.1 10) from by (first | exact j_rr0 _ _ | exact q1_24 | exact q4_24 | exact q7_24 | (rw [G10]; exact j_rr0 _ _) | fail)), (show j_eq (σ.2.1 36 (σ.1 15)) (σ.2.1 37) (τ13.2.1 37) from CH), (show (τ13.1 12) ≤ (σ.1 12) + 1 from by (first | assumption | omega | (simp only [st_s] <;> omega) | fail)), (show c_Y σ τ13 from by (first | exact c_Y0 _ | exact c_Y_g W4 G11 G20 G22 G25 | exact q1_27 | exact q4_27 | exact q7_27 | exact c_Y_g (by omega) (by rw [g11_τ4]) (by rw [g20_τ4]) (by rw [g22_τ4]) (by rw [g25_τ4]) | exact c_Y_g (by omega) (by rw [g11_τ13]) (by rw [g20_τ13]) (by rw [g22_τ13]) (by rw [g25_τ13]) | exact c_Y_g (by omega) (by rw [g11_τ17]) (by rw [g20_τ17]) (by rw [g22_τ17]) (by rw [g25_τ17]) | fail)), ag⟩
  ·
    refine h109 _ _ ?_
    refine ⟨fun c10 => ?_, fun c10 => ?_⟩
    ·
      exact ⟨hT, (show 0 ≤ 4 ∧ 4 ≤ 19 from by (first | assumption | omega | (simp only [st_s] <;> omega) | fail)), (show J_ht (σ.1 3) (σ.2.1 2) (σ.2.1 3) (σ.2.1 5) (σ.2.1 6) from HT), (show J_mn (σ.1 3) (σ.1 5) ((σ.1 7) + 1) (σ.2.1 4) from MN), (show J_rks (σ.1 5) (σ.1 4) (σ.2.1 10) (σ.2.1 11) from RKS), (show J_vs (σ.1 8) (σ.1 5) (σ.2.1 20) from VS), (show J_vs (σ.1 6) (σ.1 5) (σ.2.1 15) from TX), (show J_va (σ.1 8) 1000 (σ.2.1 18) (σ.2.1 20) from VA), (show J_mk (σ.1 11) (σ.1 8) (σ.1 9) (σ.1 10) (σ.2.1 25) from MK), (show J_sc (σ.1 7) (σ.1 9) (σ.2.1 13) (σ.2.1 14) (σ.2.1 15) (σ.2.1 16) (σ.2.1 22) (σ.2.1 19) from SC), (show J_ff (σ.1 5) (σ.1 7) (σ.2.1 9) (σ.2.1 13) (σ.2.1 14) (σ.2.1 15) from FF), (show ∀ s : Int, σ.2.1 26 s ≤ (σ.1 12) from MT), (show J_all (σ.1 7) (σ.1 6) (σ.1 13) (σ.1 14) (σ.1 15) (σ.2.1 13) (σ.2.1 14) (σ.2.1 15) (σ.2.1 16) (σ.2.1 10) (σ.2.1 27) (σ.2.1 28) (σ.2.1 29) (σ.2.1 30) (σ.2.1 31) (σ.2.1 32) (σ.2.1 33) (σ.2.1 34) (σ.2.1 35) (σ.2.1 36) (σ.2.1 37) from CJ), (show J_bp (σ.2.1 44) (σ.2.1 45) from BP), (show J_nl (σ.1 3) (σ.2.1 2) (σ.2.1 3) (σ.2.1 4) from NL), (show 4 = 0 → J_rs (σ.1 35) (σ.1 7) (σ.1 6) (σ.1 36) (σ.1 37) (σ.1 5) (σ.1 8) (σ.2.1 14) from by (first | (intro z; exfalso; omega) | exact q1_15 | exact q4_15 | exact q7_15 | (intro z; have w := q15_2 z; unfold J_rs; rw [G14, W7]; omega) | (intro z; unfold J_rs; rw [G14, W7]; omega) | (first | (intro z; exfalso; omega) | (intro z; unfold J_rs; omega) | (intro z; unfold J_rs; rw [G14, W7]; omega)) | fail)), (show 4 = 0 → 5 ≤ (σ.1 35) → 1 ≤ (σ.1 36) → 0 ≤ σ.2.1 10 (σ.2.1 15 (σ.2.1 14 (σ.1 7))) from by (first | (intro z; exfalso; omega) | exact q1_16 | exact q4_16 | exact q7_16 | (intro z y y2; exfalso; omega) | (intro z y; have w := q15_2 z; exfalso; omega) | (first | (intro z; exfalso; omega) | (intro z y; exfalso; omega) | exact fun _ => uc | (intro z y y2; exact uc (by omega) (by omega)) | (intro z y y2; exfalso; omega) | (intro z y y2; rw [G10, G14, G15, W7]; exact uc (by omega) (by omega))) | fail)), (show 4 = 0 → (σ.1 35) = 4 → j_in (σ.1 36) 1000 (σ.2.1 54) from by (first | (intro z; exfalso; omega) | exact q1_17 | exact q4_17 | exact q7_17 | (intro z y; rw [show τ17.1 36 = 0 from (q15_2 z).1]; exact j_in0 _ _) | (first | (intro z; exfalso; omega) | (intro z y; exfalso; omega) | exact fun _ => dj) | fail)), (show 4 = 0 → 5 ≤ (σ.1 35) → J_ip (σ.1 7) (σ.1 6) (σ.1 37) (σ.2.1 14) (σ.2.1 15) (σ.2.1 16) (σ.2.1 19) from by (first | (intro z; exfalso; omega) | exact q1_18 | exact q4_18 | exact q7_18 | (intro z y; have w := q15_2 z; exfalso; omega) | (intro z y; exact J_ip0 (by rw [W6, G14, W7]; omega)) | (first | (intro z; exfalso; omega) | (intro z y; exfalso; omega) | exact fun _ => ipx | (intro z y; exact ipx (by omega)) | (intro z y; rw [W7, W6, W37, G14, G15, G16, G19]; exact ipx (by omega))) | fail)), (show 4 = 0 → ((σ.1 35) ≤ 5 → (σ.1 13) ≤ 60 * (σ.1 7)) ∧ (σ.1 13) ≤ 60 * (σ.1 7) + 60 from by (first | (intro z; exfalso; omega) | exact q1_19 | exact q4_19 | exact q7_19 | (intro z; omega) | fail)), (show 4 = 0 → 6 ≤ (σ.1 35) → (σ.1 24) = (σ.1 7) ∧ J_f (σ.1 7) (σ.1 13) (σ.1 14) (σ.2.1 13) (σ.2.1 14) (σ.2.1 15) (σ.2.1 16) (σ.2.1 27) (σ.2.1 28) (σ.2.1 29) (σ.2.1 30) (σ.2.1 31) (σ.2.1 32) from by (first | (intro z; exfalso; omega) | exact q1_20 | exact q4_20 | exact q7_20 | (intro z y; have w := q15_2 z; exfalso; omega) | (intro z y; exfalso; omega) | (first | (intro z; exfalso; omega) | (intro z y; exfalso; omega) | exact fun _ => frx | (intro z y; exact frx (by omega)) | (intro z y; have w := frx (by omega); rw [W7, W13, W14, W24, G13, G14, G15, G16, G27, G28, G29, G30, G31, G32]; exact w)) | fail)), (show 4 = 0 → 6 ≤ (σ.1 35) → J_sp (σ.1 24) (σ.1 21) (σ.1 23) (σ.1 22) (σ.2.1 49) (σ.2.1 51) ∧ ((σ.1 16) + (σ.1 21) ≤ 20000) ∧ (¬ (σ.1 27) = 0 → 1 ≤ (σ.1 21) ∧ 0 ≤ σ.2.1 49 ((σ.1 21) - 1) ∧ σ.2.1 49 ((σ.1 21) - 1) < 65536) ∧ ((σ.1 26) ≤ 1000000) ∧ ((σ.1 25) ≤ 2 → (σ.1 27) = 0) from by (first | (intro z; exfalso; omega) | exact q1_21 | exact q4_21 | exact q7_21 | (intro z y; have w := q15_2 z; exfalso; omega) | (intro z y; exfalso; omega) | (first | (intro z; exfalso; omega) | (intro z y; exfalso; omega) | exact fun _ => spx | (intro z y; exact spx (by omega))) | fail)), (show 4 = 0 → (σ.1 15) ≤ (σ.1 16) ∧ σ.2.1 36 (σ.1 15) ≤ (σ.1 16) from by (first | (intro z; exfalso; omega) | exact q1_22 | exact q4_22 | exact q7_22 | (intro z; first | exact sux | omega) | fail)), (show 4 = 0 → (σ.1 9) ≤ (σ.1 7) from by (first | (intro z; exfalso; omega) | exact q1_23 | exact q4_23 | exact q7_23 | (intro z; omega) | fail)), (show j_rr ((σ.1 5)) (σ.2.1 10) (σ.2.1 10) from by (first | exact j_rr0 _ _ | exact q1_24 | exact q4_24 | exact q7_24 | (rw [G10]; exact j_rr0 _ _) | fail)), (show j_eq (σ.2.1 36 (σ.1 15)) (σ.2.1 37) (σ.2.1 37) from CH), (show (σ.1 12) ≤ (σ.1 12) + 1 from by (first | assumption | omega | (simp only [st_s] <;> omega) | fail)), (show c_Y σ σ from by (first | exact c_Y0 _ | exact c_Y_g W4 G11 G20 G22 G25 | exact q1_27 | exact q4_27 | exact q7_27 | exact c_Y_g (by omega) (by rw [g11_τ4]) (by rw [g20_τ4]) (by rw [g22_τ4]) (by rw [g25_τ4]) | exact c_Y_g (by omega) (by rw [g11_τ13]) (by rw [g20_τ13]) (by rw [g22_τ13]) (by rw [g25_τ13]) | exact c_Y_g (by omega) (by rw [g11_τ17]) (by rw [g20_τ17]) (by rw [g22_τ17]) (by rw [g25_τ17]) | fail)), ag⟩
    ·
      refine ⟨_, K2_X7_statement hT, ?_⟩
      intro x12 τ13 r_x12 hn_τ13 hf_τ13 hq
      obtain ⟨hT, q11_1, q11_2, q11_3⟩ := hq
      replace q11_1 : x12 = 0 := q11_1
      replace q11_2 : (τ13.1 36) = 0 := q11_2
      replace q11_3 : (τ13.1 35) = 5 := q11_3
      replace ag : c_ag σ τ13 := ag_r ag hf_τ13 rfl rfl
      have w3_τ13 : τ13.1 3 = σ.1 3 := hf_τ13.1 3 (by decide)
      have w4_τ13 : τ13.1 4 = σ.1 4 := hf_τ13.1 4 (by decide)
      have w5_τ13 : τ13.1 5 = σ.1 5 := hf_τ13.1 5 (by decide)
      have w6_τ13 : τ13.1 6 = σ.1 6 := hf_τ13.1 6 (by decide)
      have w7_τ13 : τ13.1 7 = σ.1 7 := hf_τ13.1 7 (by decide)
      have w8_τ13 : τ13.1 8 = σ.1 8 := hf_τ13.1 8 (by decide)
      have w9_τ13 : τ13.1 9 = σ.1 9 := hf_τ13.1 9 (by decide)
      have w10_τ13 : τ13.1 10 = σ.1 10 := hf_τ13.1 10 (by decide)
      have w11_τ13 : τ13.1 11 = σ.1 11 := hf_τ13.1 11 (by decide)
      have w12_τ13 : τ13.1 12 = σ.1 12 := hf_τ13.1 12 (by decide)
      have w13_τ13 : τ13.1 13 = σ.1 13 := hf_τ13.1 13 (by decide)
      have w14_τ13 : τ13.1 14 = σ.1 14 := hf_τ13.1 14 (by decide)
      have w15_τ13 : τ13.1 15 = σ.1 15 := hf_τ13.1 15 (by decide)
      have w16_τ13 : τ13.1 16 = σ.1 16 := hf_τ13.1 16 (by decide)
      have w21_τ13 : τ13.1 21 = σ.1 21 := hf_τ13.1 21 (by decide)
      have w22_τ13 : τ13.1 22 = σ.1 22 := hf_τ13.1 22 (by decide)
      have w23_τ13 : τ13.1 23 = σ.1 23 := hf_τ13.1 23 (by decide)
      have w24_τ13 : τ13.1 24 = σ.1 24 := hf_τ13.1 24 (by decide)
      have w25_τ13 : τ13.1 25 = σ.1 25 := hf_τ13.1 25 (by decide)
      have w26_τ13 : τ13.1 26 = σ.1 26 := hf_τ13.1 26 (by decide)
      have w27_τ13 : τ13.1 27 = σ.1 27 := hf_τ13.1 27 (by decide)
      have g2_τ13 : τ13.2.1 2 = σ.2.1 2 := hf_τ13.2.1 2 (by decide)
      have g3_τ13 : τ13.2.1 3 = σ.2.1 3 := hf_τ13.2.1 3 (by decide)
      have g4_τ13 : τ13.2.1 4 = σ.2.1 4 := hf_τ13.2.1 4 (by decide)
      have g5_τ13 : τ13.2.1 5 = σ.2.1 5 := hf_τ13.2.1 5 (by decide)
      have g6_τ13 : τ13.2.1 6 = σ.2.1 6 := hf_τ13.2.1 6 (by decide)
      have g8_τ13 : τ13.2.1 8 = σ.2.1 8 := hf_τ13.2.1 8 (by decide)
      have g9_τ13 : τ13.2.1 9 = σ.2.1 9 := hf_τ13.2.1 9 (by decide)
      have g10_τ13 : τ13.2.1 10 = σ.2.1 10 := hf_τ13.2.1 10 (by decide)
      have g11_τ13 : τ13.2.1 11 = σ.2.1 11 := hf_τ13.2.1 11 (by decide)
      have g13_τ13 : τ13.2.1 13 = σ.2.1 13 := hf_τ13.2.1 13 (by decide)
      have g14_τ13 : τ13.2.1 14 = σ.2.1 14 := hf_τ13.2.1 14 (by decide)
      have g15_τ13 : τ13.2.1 15 = σ.2.1 15 := hf_τ13.2.1 15 (by decide)
      have g16_τ13 : τ13.2.1 16 = σ.2.1 16 := hf_τ13.2.1 16 (by decide)
      have g18_τ13 : τ13.2.1 18 = σ.2.1 18 := hf_τ13.2.1 18 (by decide)
      have g19_τ13 : τ13.2.1 19 = σ.2.1 19 := hf_τ13.2.1 19 (by decide)
      have g20_τ13 : τ13.2.1 20 = σ.2.1 20 := hf_τ13.2.1 20 (by decide)
      have g22_τ13 : τ13.2.1 22 = σ.2.1 22 := hf_τ13.2.1 22 (by decide)
      have g23_τ13 : τ13.2.1 23 = σ.2.1 23 := hf_τ13.2.1 23 (by decide)
      have g24_τ13 : τ13.2.1 24 = σ.2.1 24 := hf_τ13.2.1 24 (by decide)
      have g25_τ13 : τ13.2.1 25 = σ.2.1 25 := hf_τ13.2.1 25 (by decide)
      have g26_τ13 : τ13.2.1 26 = σ.2.1 26 := hf_τ13.2.1 26 (by decide)
      have g27_τ13 : τ13.2.1 27 = σ.2.1 27 := hf_τ13.2.1 27 (by decide)
      have g28_τ13 : τ13.2.1 28 = σ.2.1 28 := hf_τ13.2.1 28 (by decide)
      have g29_τ13 : τ13.2.1 29 = σ.2.1 29 := hf_τ13.2.1 29 (by decide)
      have g30_τ13 : τ13.2.1 30 = σ.2.1 30 := hf_τ13.2.1 30 (by decide)
      have g31_τ13 : τ13.2.1 31 = σ.2.1 31 := hf_τ13.2.1 31 (by decide)
      have g32_τ13 : τ13.2.1 32 = σ.2.1 32 := hf_τ13.2.1 32 (by decide)
      have g33_τ13 : τ13.2.1 33 = σ.2.1 33 := hf_τ13.2.1 33 (by decide)
      have g34_τ13 : τ13.2.1 34 = σ.2.1 34 := hf_τ13.2.1 34 (by decide)
      have g35_τ13 : τ13.2.1 35 = σ.2.1 35 := hf_τ13.2.1 35 (by decide)
      have g36_τ13 : τ13.2.1 36 = σ.2.1 36 := hf_τ13.2.1 36 (by decide)
      have g37_τ13 : τ13.2.1 37 = σ.2.1 37 := hf_τ13.2.1 37 (by decide)
      have g44_τ13 : τ13.2.1 44 = σ.2.1 44 := hf_τ13.2.1 44 (by decide)
      have g45_τ13 : τ13.2.1 45 = σ.2.1 45 := hf_τ13.2.1 45 (by decide)
      have g49_τ13 : τ13.2.1 49 = σ.2.1 49 := hf_τ13.2.1 49 (by decide)
      have g51_τ13 : τ13.2.1 51 = σ.2.1 51 := hf_τ13.2.1 51 (by decide)
      have g54_τ13 : τ13.2.1 54 = σ.2.1 54 := hf_τ13.2.1 54 (by decide)
      have W3 : τ13.1 3 = σ.1 3 := by omega
      have W4 : τ13.1 4 = σ.1 4 := by omega
      have W5 : τ13.1 5 = σ.1 5 := by omega
      have W6 : τ13.1 6 = σ.1 6 := by omega
      have W7 : τ13.1 7 = σ.1 7 := by omega
      have W15 : τ13.1 15 = σ.1 15 := by omega
      have W16 : τ13.1 16 = σ.1 16 := by omega
      have G2 : τ13.2.1 2 = σ.2.1 2 := (g2_τ13).trans G2
      have G3 : τ13.2.1 3 = σ.2.1 3 := (g3_τ13).trans G3
      have G4 : τ13.2.1 4 = σ.2.1 4 := (g4_τ13).trans G4
      have G5 : τ13.2.1 5 = σ.2.1 5 := (g5_τ13).trans G5
      have G6 : τ13.2.1 6 = σ.2.1 6 := (g6_τ13).trans G6
      have G8 : τ13.2.1 8 = σ.2.1 8 := (g8_τ13).trans G8
      have G9 : τ13.2.1 9 = σ.2.1 9 := (g9_τ13).trans G9
      have G10 : τ13.2.1 10 = σ.2.1 10 := (g10_τ13).trans G10
      have G11 : τ13.2.1 11 = σ.2.1 11 := (g11_τ13).trans G11
      have G13 : τ13.2.1 13 = σ.2.1 13 := (g13_τ13).trans G13
      have G14 : τ13.2.1 14 = σ.2.1 14 := (g14_τ13).trans G14
      have G15 : τ13.2.1 15 = σ.2.1 15 := (g15_τ13).trans G15
      have G16 : τ13.2.1 16 = σ.2.1 16 := (g16_τ13).trans G16
      have G20 : τ13.2.1 20 = σ.2.1 20 := (g20_τ13).trans G20
      have G22 : τ13.2.1 22 = σ.2.1 22 := (g22_τ13).trans G22
      have G23 : τ13.2.1 23 = σ.2.1 23 := (g23_τ13).trans G23
      have G24 : τ13.2.1 24 = σ.2.1 24 := (g24_τ13).trans G24
      have G33 : τ13.2.1 33 = σ.2.1 33 := (g33_τ13).trans G33
      have G34 : τ13.2.1 34 = σ.2.1 34 := (g34_τ13).trans G34
      have G35 : τ13.2.1 35 = σ.2.1 35 := (g35_τ13).trans G35
      have G36 : τ13.2.1 36 = σ.2.1 36 := (g36_τ13).trans G36
      have G37 : τ13.2.1 37 = σ.2.1 37 := (g37_τ13).trans G37
      have G44 : τ13.2.1 44 = σ.2.1 44 := (g44_τ13).trans G44
      have G45 : τ13.2.1 45 = σ.2.1 45 := (g45_τ13).trans G45
      have G49 : τ13.2.1 49 = σ.2.1 49 := (g49_τ13).trans G49
      have G51 : τ13.2.1 51 = σ.2.1 51 := (g51_τ13).trans G51
      have G54 : τ13.2.1 54 = σ.2.1 54 := (g54_τ13).trans G54
      have y14_7_τ13 : τ13.2.1 14 (τ13.1 7) = (σ.2.1 14) (σ.1 7) := by rw [g14_τ13, w7_τ13]
      have y36_15_τ13 : τ13.2.1 36 (τ13.1 15) = (σ.2.1 36) (σ.1 15) := by rw [g36_τ13, w15_τ13]
      have HT : J_ht (τ13.1 3) (τ13.2.1 2) (τ13.2.1 3) (τ13.2.1 5) (τ13.2.1 6) := by rw [show (J_ht (τ13.1 3) (τ13.2.1 2) (τ13.2.1 3) (τ13.2.1 5) (τ13.2.1 6)) = (J_ht (σ.1 3) (σ.2.1 2) (σ.2.1 3) (σ.2.1 5) (σ.2.1 6)) from by rw [w3_τ13, g2_τ13, g3_τ13, g5_τ13, g6_τ13]]; exact HT
      have NL : J_nl (τ13.1 3) (τ13.2.1 2) (τ13.2.1 3) (τ13.2.1 4) := by rw [show (J_nl (τ13.1 3) (τ13.2.1 2) (τ13.2.1 3) (τ13.2.1 4)) = (J_nl (σ.1 3) (σ.2.1 2) (σ.2.1 3) (σ.2.1 4)) from by rw [w3_τ13, g2_τ13, g3_τ13, g4_τ13]]; exact NL
      have MN : J_mn (τ13.1 3) (τ13.1 5) ((τ13.1 7) + 1) (τ13.2.1 4) := by rw [show (J_mn (τ13.1 3) (τ13.1 5) ((τ13.1 7) + 1) (τ13.2.1 4)) = (J_mn (σ.1 3) (σ.1 5) ((σ.1 7) + 1) (σ.2.1 4)) from by rw [w3_τ13, w5_τ13, w7_τ13, g4_τ13]]; exact MN
      have VA : J_va (τ13.1 8) 1000 (τ13.2.1 18) (τ13.2.1 20) := by rw [show (J_va (τ13.1 8) 1000 (τ13.2.1 18) (τ13.2.1 20)) = (J_va (σ.1 8) 1000 (σ.2.1 18) (σ.2.1 20)) from by rw [w8_τ13, g18_τ13, g20_τ13]]; exact VA
      have SC : J_sc (τ13.1 7) (τ13.1 9) (τ13.2.1 13) (τ13.2.1 14) (τ13.2.1 15) (τ13.2.1 16) (τ13.2.1 22) (τ13.2.1 19) := by rw [show (J_sc (τ13.1 7) (τ13.1 9) (τ13.2.1 13) (τ13.2.1 14) (τ13.2.1 15) (τ13.2.1 16) (τ13.2.1 22) (τ13.2.1 19)) = (J_sc (σ.1 7) (σ.1 9) (σ.2.1 13) (σ.2.1 14) (σ.2.1 15) (σ.2.1 16) (σ.2.1 22) (σ.2.1 19)) from by rw [w7_τ13, w9_τ13, g13_τ13, g14_τ13, g15_τ13, g16_τ13, g19_τ13, g22_τ13]]; exact SC
      have MK : J_mk (τ13.1 11) (τ13.1 8) (τ13.1 9) (τ13.1 10) (τ13.2.1 25) := by rw [show (J_mk (τ13.1 11) (τ13.1 8) (τ13.1 9) (τ13.1 10) (τ13.2.1 25)) = (J_mk (σ.1 11) (σ.1 8) (σ.1 9) (σ.1 10) (σ.2.1 25)) from by rw [w8_τ13, w9_τ13, w10_τ13, w11_τ13, g25_τ13]]; exact MK
      have FF : J_ff (τ13.1 5) (τ13.1 7) (τ13.2.1 9) (τ13.2.1 13) (τ13.2.1 14) (τ13.2.1 15) := by rw [show (J_ff (τ13.1 5) (τ13.1 7) (τ13.2.1 9) (τ13.2.1 13) (τ13.2.1 14) (τ13.2.1 15)) = (J_ff (σ.1 5) (σ.1 7) (σ.2.1 9) (σ.2.1 13) (σ.2.1 14) (σ.2.1 15)) from by rw [w5_τ13, w7_τ13, g9_τ13, g13_τ13, g14_τ13, g15_τ13]]; exact FF
      have MT : ∀ s : Int, τ13.2.1 26 s ≤ (τ13.1 12) := by rw [show (∀ s : Int, τ13.2.1 26 s ≤ (τ13.1 12)) = (∀ s : Int, σ.2.1 26 s ≤ (σ.1 12)) from by rw [w12_τ13, g26_τ13]]; exact MT
      have VS : J_vs (τ13.1 8) (τ13.1 5) (τ13.2.1 20) := by rw [show (J_vs (τ13.1 8) (τ13.1 5) (τ13.2.1 20)) = (J_vs (σ.1 8) (σ.1 5) (σ.2.1 20)) from by rw [w5_τ13, w8_τ13, g20_τ13]]; exact VS
      have TX : J_vs (τ13.1 6) (τ13.1 5) (τ13.2.1 15) := by rw [show (J_vs (τ13.1 6) (τ13.1 5) (τ13.2.1 15)) = (J_vs (σ.1 6) (σ.1 5) (σ.2.1 15)) from by rw [w5_τ13, w6_τ13, g15_τ13]]; exact TX
      have RKS : J_rks (τ13.1 5) (τ13.1 4) (τ13.2.1 10) (τ13.2.1 11) := by rw [show (J_rks (τ13.1 5) (τ13.1 4) (τ13.2.1 10) (τ13.2.1 11)) = (J_rks (σ.1 5) (σ.1 4) (σ.2.1 10) (σ.2.1 11)) from by rw [w4_τ13, w5_τ13, g10_τ13, g11_τ13]]; exact RKS
      have CJ : J_all (τ13.1 7) (τ13.1 6) (τ13.1 13) (τ13.1 14) (τ13.1 15) (τ13.2.1 13) (τ13.2.1 14) (τ13.2.1 15) (τ13.2.1 16) (τ13.2.1 10) (τ13.2.1 27) (τ13.2.1 28) (τ13.2.1 29) (τ13.2.1 30) (τ13.2.1 31) (τ13.2.1 32) (τ13.2.1 33) (τ13.2.1 34) (τ13.2.1 35) (τ13.2.1 36) (τ13.2.1 37) := by rw [show (J_all (τ13.1 7) (τ13.1 6) (τ13.1 13) (τ13.1 14) (τ13.1 15) (τ13.2.1 13) (τ13.2.1 14) (τ13.2.1 15) (τ13.2.1 16) (τ13.2.1 10) (τ13.2.1 27) (τ13.2.1 28) (τ13.2.1 29) (τ13.2.1 30) (τ13.2.1 31) (τ13.2.1 32) (τ13.2.1 33) (τ13.2.1 34) (τ13.2.1 35) (τ13.2.1 36) (τ13.2.1 37)) = (J_all (σ.1 7) (σ.1 6) (σ.1 13) (σ.1 14) (σ.1 15) (σ.2.1 13) (σ.2.1 14) (σ.2.1 15) (σ.2.1 16) (σ.2.1 10) (σ.2.1 27) (σ.2.1 28) (σ.2.1 29) (σ.2.1 30) (σ.2.1 31) (σ.2.1 32) (σ.2.1 33) (σ.2.1 34) (σ.2.1 35) (σ.2.1 36) (σ.2.1 37)) from by rw [w6_τ13, w7_τ13, w13_τ13, w14_τ13, w15_τ13, g10_τ13, g13_τ13, g14_τ13, g15_τ13, g16_τ13, g27_τ13, g28_τ13, g29_τ13, g30_τ13, g31_τ13, g32_τ13, g33_τ13, g34_τ13, g35_τ13, g36_τ13, g37_τ13]]; exact CJ
      have BP : J_bp (τ13.2.1 44) (τ13.2.1 45) := by rw [show (J_bp (τ13.2.1 44) (τ13.2.1 45)) = (J_bp (σ.2.1 44) (σ.2.1 45)) from by rw [g44_τ13, g45_τ13]]; exact BP
      have CH : j_eq (σ.2.1 36 (σ.1 15)) (σ.2.1 37) (τ13.2.1 37) := by rw [show (j_eq (σ.2.1 36 (σ.1 15)) (σ.2.1 37) (τ13.2.1 37)) = (j_eq (σ.2.1 36 (σ.1 15)) (σ.2.1 37) (σ.2.1 37)) from by rw [g37_τ13]]; exact CH
      have A2 : ∀ j, 0 ≤ τ13.2.1 2 j ∧ τ13.2.1 2 j ≤ 65535 := fun j => hT.2 2 j
      have A3 : ∀ j, 0 ≤ τ13.2.1 3 j ∧ τ13.2.1 3 j ≤ 30000 := fun j => hT.2 3 j
      have A4 : ∀ j, (-1000) ≤ τ13.2.1 4 j ∧ τ13.2.1 4 j ≤ 1499 := fun j => hT.2 4 j
      have A5 : ∀ j, 0 ≤ τ13.2.1 5 j ∧ τ13.2.1 5 j ≤ 2500 := fun j => hT.2 5 j
      have A6 : ∀ j, 0 ≤ τ13.2.1 6 j ∧ τ13.2.1 6 j ≤ 2500 := fun j => hT.2 6 j
      have A8 : ∀ j, 0 ≤ τ13.2.1 8 j ∧ τ13.2.1 8 j ≤ 1 := fun j => hT.2 8 j
      have A9 : ∀ j, (-1) ≤ τ13.2.1 9 j ∧ τ13.2.1 9 j ≤ 1499 := fun j => hT.2 9 j
      have A10 : ∀ j, (-1) ≤ τ13.2.1 10 j ∧ τ13.2.1 10 j ≤ 99 := fun j => hT.2 10 j
      have A11 : ∀ j, 0 ≤ τ13.2.1 11 j ∧ τ13.2.1 11 j ≤ 999 := fun j => hT.2 11 j
      have A13 : ∀ j, 0 ≤ τ13.2.1 13 j ∧ τ13.2.1 13 j ≤ 4 := fun j => hT.2 13 j
      have A14 : ∀ j, 0 ≤ τ13.2.1 14 j ∧ τ13.2.1 14 j ≤ 30000 := fun j => hT.2 14 j
      have A15 : ∀ j, 0 ≤ τ13.2.1 15 j ∧ τ13.2.1 15 j ≤ 999 := fun j => hT.2 15 j
      have A16 : ∀ j, (-1) ≤ τ13.2.1 16 j ∧ τ13.2.1 16 j ≤ 1499 := fun j => hT.2 16 j
      have A18 : ∀ j, 0 ≤ τ13.2.1 18 j ∧ τ13.2.1 18 j ≤ 1 := fun j => hT.2 18 j
      have A19 : ∀ j, (-1) ≤ τ13.2.1 19 j ∧ τ13.2.1 19 j ≤ 1499 := fun j => hT.2 19 j
      have A20 : ∀ j, 0 ≤ τ13.2.1 20 j ∧ τ13.2.1 20 j ≤ 999 := fun j => hT.2 20 j
      have A22 : ∀ j, 0 ≤ τ13.2.1 22 j ∧ τ13.2.1 22 j ≤ 1499 := fun j => hT.2 22 j
      have A23 : ∀ j, 0 ≤ τ13.2.1 23 j ∧ τ13.2.1 23 j ≤ 999 := fun j => hT.2 23 j
      have A24 : ∀ j, 0 ≤ τ13.2.1 24 j ∧ τ13.2.1 24 j ≤ 999 := fun j => hT.2 24 j
      have A26 : ∀ j, (-2147483648) ≤ τ13.2.1 26 j ∧ τ13.2.1 26 j ≤ 2147483647 := fun j => hT.2 26 j
      have A27 : ∀ j, 0 ≤ τ13.2.1 27 j ∧ τ13.2.1 27 j ≤ 90000 := fun j => hT.2 27 j
      have A28 : ∀ j, 0 ≤ τ13.2.1 28 j ∧ τ13.2.1 28 j ≤ 60 := fun j => hT.2 28 j
      have A29 : ∀ j, 0 ≤ τ13.2.1 29 j ∧ τ13.2.1 29 j ≤ 1499 := fun j => hT.2 29 j
      have A30 : ∀ j, 0 ≤ τ13.2.1 30 j ∧ τ13.2.1 30 j ≤ 20000 := fun j => hT.2 30 j
      have A31 : ∀ j, 0 ≤ τ13.2.1 31 j ∧ τ13.2.1 31 j ≤ 20000 := fun j => hT.2 31 j
      have A32 : ∀ j, 0 ≤ τ13.2.1 32 j ∧ τ13.2.1 32 j ≤ 999999 := fun j => hT.2 32 j
      have A33 : ∀ j, 0 ≤ τ13.2.1 33 j ∧ τ13.2.1 33 j ≤ 20000 := fun j => hT.2 33 j
      have A34 : ∀ j, 0 ≤ τ13.2.1 34 j ∧ τ13.2.1 34 j ≤ 20000 := fun j => hT.2 34 j
      have A35 : ∀ j, 0 ≤ τ13.2.1 35 j ∧ τ13.2.1 35 j ≤ 1499 := fun j => hT.2 35 j
      have A36 : ∀ j, 0 ≤ τ13.2.1 36 j ∧ τ13.2.1 36 j ≤ 20000 := fun j => hT.2 36 j
      have A37 : ∀ j, 0 ≤ τ13.2.1 37 j ∧ τ13.2.1 37 j ≤ 19999 := fun j => hT.2 37 j
      have A44 : ∀ j, 0 ≤ τ13.2.1 44 j ∧ τ13.2.1 44 j ≤ 42000 := fun j => hT.2 44 j
      have A45 : ∀ j, 0 ≤ τ13.2.1 45 j ∧ τ13.2.1 45 j ≤ 1000 := fun j => hT.2 45 j
      have A49 : ∀ j, (-300) ≤ τ13.2.1 49 j ∧ τ13.2.1 49 j ≤ 67035 := fun j => hT.2 49 j
      have A51 : ∀ j, 0 ≤ τ13.2.1 51 j ∧ τ13.2.1 51 j ≤ 1499 := fun j => hT.2 51 j
      have A54 : ∀ j, 0 ≤ τ13.2.1 54 j ∧ τ13.2.1 54 j ≤ 999 := fun j => hT.2 54 j
      have v3 : 0 ≤ τ13.1 3 ∧ τ13.1 3 ≤ 2500 := hT.1 3
      have v4 : 0 ≤ τ13.1 4 ∧ τ13.1 4 ≤ 100 := hT.1 4
      have v5 : 0 ≤ τ13.1 5 ∧ τ13.1 5 ≤ 1000 := hT.1 5
      have v6 : 0 ≤ τ13.1 6 ∧ τ13.1 6 ≤ 30000 := hT.1 6
      have v7 : 0 ≤ τ13.1 7 ∧ τ13.1 7 ≤ 1500 := hT.1 7
      have v8 : 0 ≤ τ13.1 8 ∧ τ13.1 8 ≤ 1000 := hT.1 8
      have v9 : 0 ≤ τ13.1 9 ∧ τ13.1 9 ≤ 1500 := hT.1 9
      have v10 : 0 ≤ τ13.1 10 ∧ τ13.1 10 ≤ 1000 := hT.1 10
      have v11 : 0 ≤ τ13.1 11 ∧ τ13.1 11 ≤ 50 := hT.1 11
      have v12 : (-2147483648) ≤ τ13.1 12 ∧ τ13.1 12 ≤ 2147483647 := hT.1 12
      have v13 : 0 ≤ τ13.1 13 ∧ τ13.1 13 ≤ 90000 := hT.1 13
      have v14 : 0 ≤ τ13.1 14 ∧ τ13.1 14 ≤ 20000 := hT.1 14
      have v15 : 0 ≤ τ13.1 15 ∧ τ13.1 15 ≤ 20000 := hT.1 15
      have v16 : 0 ≤ τ13.1 16 ∧ τ13.1 16 ≤ 20000 := hT.1 16
      have v21 : 0 ≤ τ13.1 21 ∧ τ13.1 21 ≤ 20000 := hT.1 21
      have v22 : 0 ≤ τ13.1 22 ∧ τ13.1 22 ≤ 300 := hT.1 22
      have v23 : 0 ≤ τ13.1 23 ∧ τ13.1 23 ≤ 300 := hT.1 23
      have v24 : 0 ≤ τ13.1 24 ∧ τ13.1 24 ≤ 1499 := hT.1 24
      have v25 : 0 ≤ τ13.1 25 ∧ τ13.1 25 ≤ 3 := hT.1 25
      have v26 : 0 ≤ τ13.1 26 ∧ τ13.1 26 ≤ 5000010 := hT.1 26
      have v27 : 0 ≤ τ13.1 27 ∧ τ13.1 27 ≤ 1 := hT.1 27
      have v35 : 0 ≤ τ13.1 35 ∧ τ13.1 35 ≤ 7 := hT.1 35
      have v36 : 0 ≤ τ13.1 36 ∧ τ13.1 36 ≤ 1001 := hT.1 36
      have v37 : 0 ≤ τ13.1 37 ∧ τ13.1 37 ≤ 4 := hT.1 37
      have a14_7 : 0 ≤ τ13.2.1 14 (τ13.1 7) ∧ τ13.2.1 14 (τ13.1 7) ≤ 30000 := hT.2 14 _
      have a36_15 : 0 ≤ τ13.2.1 36 (τ13.1 15) ∧ τ13.2.1 36 (τ13.1 15) ≤ 20000 := hT.2 36 _
      have av13 : σ.1 13 ≤ τ13.1 13 := ag.1 13 (by decide)
      have av14 : σ.1 14 ≤ τ13.1 14 := ag.1 14 (by decide)
      exact ⟨hT, (show 0 ≤ x12 ∧ x12 ≤ 19 from by (first | assumption | omega | (simp only [st_s] <;> omega) | fail)), (show J_ht (τ13.1 3) (τ13.2.1 2) (τ13.2.1 3) (τ13.2.1 5) (τ13.2.1 6) from HT), (show J_mn (τ13.1 3) (τ13.1 5) ((τ13.1 7) + 1) (τ13.2.1 4) from MN), (show J_rks (τ13.1 5) (τ13.1 4) (τ13.2.1 10) (τ13.2.1 11) from RKS), (show J_vs (τ13.1 8) (τ13.1 5) (τ13.2.1 20) from VS), (show J_vs (τ13.1 6) (τ13.1 5) (τ13.2.1 15) from TX), (show J_va (τ13.1 8) 1000 (τ13.2.1 18) (τ13.2.1 20) from VA), (show J_mk (τ13.1 11) (τ13.1 8) (τ13.1 9) (τ13.1 10) (τ13.2.1 25) from MK), (show J_sc (τ13.1 7) (τ13.1 9) (τ13.2.1 13) (τ13.2.1 14) (τ13.2.1 15) (τ13.2.1 16) (τ13.2.1 22) (τ13.2.1 19) from SC), (show J_ff (τ13.1 5) (τ13.1 7) (τ13.2.1 9) (τ13.2.1 13) (τ13.2.1 14) (τ13.2.1 15) from FF), (show ∀ s : Int, τ13.2.1 26 s ≤ (τ13.1 12) from MT), (show J_all (τ13.1 7) (τ13.1 6) (τ13.1 13) (τ13.1 14) (τ13.1 15) (τ13.2.1 13) (τ13.2.1 14) (τ13.2.1 15) (τ13.2.1 16) (τ13.2.1 10) (τ13.2.1 27) (τ13.2.1 28) (τ13.2.1 29) (τ13.2.1 30) (τ13.2.1 31) (τ13.2.1 32) (τ13.2.1 33) (τ13.2.1 34) (τ13.2.1 35) (τ13.2.1 36) (τ13.2.1 37) from CJ), (show J_bp (τ13.2.1 44) (τ13.2.1 45) from BP), (show J_nl (τ13.1 3) (τ13.2.1 2) (τ13.2.1 3) (τ13.2.1 4) from NL), (show x12 = 0 → J_rs (τ13.1 35) (τ13.1 7) (τ13.1 6) (τ13.1 36) (τ13.1 37) (τ13.1 5) (τ13.1 8) (τ13.2.1 14) from by (first | (intro z; exfalso; omega) | exact q1_15 | exact q4_15 | exact q7_15 | (intro z; have w := q15_2 z; unfold J_rs; rw [G14, W7]; omega) | (intro z; unfold J_rs; rw [G14, W7]; omega) | (first | (intro z; exfalso; omega) | (intro z; unfold J_rs; omega) | (intro z; unfold J_rs; rw [G14, W7]; omega)) | fail)), (show x12 = 0 → 5 ≤ (τ13.1 35) → 1 ≤ (τ13.1 36) → 0 ≤ τ13.2.1 10 (τ13.2.1 15 (τ13.2.1 14 (τ13.1 7))) from by (first | (intro z; exfalso; omega) | exact q1_16 | exact q4_16 | exact q7_16 | (intro z y y2; exfalso; omega) | (intro z y; have w := q15_2 z; exfalso; omega) | (first | (intro z; exfalso; omega) | (intro z y; exfalso; omega) | exact fun _ => uc | (intro z y y2; exact uc (by omega) (by omega)) | (intro z y y2; exfalso; omega) | (intro z y y2; rw [G10, G14, G15, W7]; exact uc (by omega) (by omega))) | fail)), (show x12 = 0 → (τ13.1 35) = 4 → j_in (τ13.1 36) 1000 (τ13.2.1 54) from by (first | (intro z; exfalso; omega) | exact q1_17 | exact q4_17 | exact q7_17 | (intro z y; rw [show τ17.1 36 = 0 from (q15_2 z).1]; exact j_in0 _ _) | (first | (intro z; exfalso; omega) | (intro z y; exfalso; omega) | exact fun _ => dj) | fail)), (show x12 = 0 → 5 ≤ (τ13.1 35) → J_ip (τ13.1 7) (τ13.1 6) (τ13.1 37) (τ13.2.1 14) (τ13.2.1 15) (τ13.2.1 16) (τ13.2.1 19) from by (first | (intro z; exfalso; omega) | exact q1_18 | exact q4_18 | exact q7_18 | (intro z y; have w := q15_2 z; exfalso; omega) | (intro z y; exact J_ip0 (by rw [W6, G14, W7]; omega)) | (first | (intro z; exfalso; omega) | (intro z y; exfalso; omega) | exact fun _ => ipx | (intro z y; exact ipx (by omega)) | (intro z y; rw [W7, W6, W37, G14, G15, G16, G19]; exact ipx (by omega))) | fail)), (show x12 = 0 → ((τ13.1 35) ≤ 5 → (τ13.1 13) ≤ 60 * (τ13.1 7)) ∧ (τ13.1 13) ≤ 60 * (τ13.1 7) + 60 from by (first | (intro z; exfalso; omega) | exact q1_19 | exact q4_19 | exact q7_19 | (intro z; omega) | fail)), (show x12 = 0 → 6 ≤ (τ13.1 35) → (τ13.1 24) = (τ13.1 7) ∧ J_f (τ13.1 7) (τ13.1 13) (τ13.1 14) (τ13.2.1 13) (τ13.2.1 14) (τ13.2.1 15) (τ13.2.1 16) (τ13.2.1 27) (τ13.2.1 28) (τ13.2.1 29) (τ13.2.1 30) (τ13.2.1 31) (τ13.2.1 32) from by (first | (intro z; exfalso; omega) | exact q1_20 | exact q4_20 | exact q7_20 | (intro z y; have w := q15_2 z; exfalso; omega) | (intro z y; exfalso; omega) | (first | (intro z; exfalso; omega) | (intro z y; exfalso; omega) | exact fun _ => frx | (intro z y; exact frx (by omega)) | (intro z y; have w := frx (by omega); rw [W7, W13, W14, W24, G13, G14, G15, G16, G27, G28, G29, G30, G31, G32]; exact w)) | fail)), (show x12 = 0 → 6 ≤ (τ13.1 35) → J_sp (τ13.1 24) (τ13.1 21) (τ13.1 23) (τ13.1 22) (τ13.2.1 49) (τ13.2.1 51) ∧ ((τ13.1 16) + (τ13.1 21) ≤ 20000) ∧ (¬ (τ13.1 27) = 0 → 1 ≤ (τ13.1 21) ∧ 0 ≤ τ13.2.1 49 ((τ13.1 21) - 1) ∧ τ13.2.1 49 ((τ13.1 21) - 1) < 65536) ∧ ((τ13.1 26) ≤ 1000000) ∧ ((τ13.1 25) ≤ 2 → (τ13.1 27) = 0) from by (first | (intro z; exfalso; omega) | exact q1_21 | exact q4_21 | exact q7_21 | (intro z y; have w := q15_2 z; exfalso; omega) | (intro z y; exfalso; omega) | (first | (intro z; exfalso; omega) | (intro z y; exfalso; omega) | exact fun _ => spx | (intro z y; exact spx (by omega))) | fail)), (show x12 = 0 → (τ13.1 15) ≤ (τ13.1 16) ∧ τ13.2.1 36 (τ13.1 15) ≤ (τ13.1 16) from by (first | (intro z; exfalso; omega) | exact q1_22 | exact q4_22 | exact q7_22 | (intro z; first | exact sux | omega) | fail)), (show x12 = 0 → (τ13.1 9) ≤ (τ13.1 7) from by (first | (intro z; exfalso; omega) | exact q1_23 | exact q4_23 | exact q7_23 | (intro z; omega) | fail)), (show j_rr ((σ.1 5)) (σ.2.1 10) (τ13.2.1 10) from by (first | exact j_rr0 _ _ | exact q1_24 | exact q4_24 | exact q7_24 | (rw [G10]; exact j_rr0 _ _) | fail)), (show j_eq (σ.2.1 36 (σ.1 15)) (σ.2.1 37) (τ13.2.1 37) from CH), (show (τ13.1 12) ≤ (σ.1 12) + 1 from by (first | assumption | omega | (simp only [st_s] <;> omega) | fail)), (show c_Y σ τ13 from by (first | exact c_Y0 _ | exact c_Y_g W4 G11 G20 G22 G25 | exact q1_27 | exact q4_27 | exact q7_27 | exact c_Y_g (by omega) (by rw [g11_τ4]) (by rw [g20_τ4]) (by rw [g22_τ4]) (by rw [g25_τ4]) | exact c_Y_g (by omega) (by rw [g11_τ13]) (by rw [g20_τ13]) (by rw [g22_τ13]) (by rw [g25_τ13]) | exact c_Y_g (by omega) (by rw [g11_τ17]) (by rw [g20_τ17]) (by rw [g22_τ17]) (by rw [g25_τ17]) | fail)), ag⟩
  ·
    refine h92 _ _ ?_
    refine ⟨fun c14 => ?_, fun c14 => ?_⟩
    ·
      exact ⟨hT, (show 0 ≤ 4 ∧ 4 ≤ 19 from by (first | assumption | omega | (simp only [st_s] <;> omega) | fail)), (show J_ht (σ.1 3) (σ.2.1 2) (σ.2.1 3) (σ.2.1 5) (σ.2.1 6) from HT), (show J_mn (σ.1 3) (σ.1 5) ((σ.1 7) + 1) (σ.2.1 4) from MN), (show J_rks (σ.1 5) (σ.1 4) (σ.2.1 10) (σ.2.1 11) from RKS), (show J_vs (σ.1 8) (σ.1 5) (σ.2.1 20) from VS), (show J_vs (σ.1 6) (σ.1 5) (σ.2.1 15) from TX), (show J_va (σ.1 8) 1000 (σ.2.1 18) (σ.2.1 20) from VA), (show J_mk (σ.1 11) (σ.1 8) (σ.1 9) (σ.1 10) (σ.2.1 25) from MK), (show J_sc (σ.1 7) (σ.1 9) (σ.2.1 13) (σ.2.1 14) (σ.2.1 15) (σ.2.1 16) (σ.2.1 22) (σ.2.1 19) from SC), (show J_ff (σ.1 5) (σ.1 7) (σ.2.1 9) (σ.2.1 13) (σ.2.1 14) (σ.2.1 15) from FF), (show ∀ s : Int, σ.2.1 26 s ≤ (σ.1 12) from MT), (show J_all (σ.1 7) (σ.1 6) (σ.1 13) (σ.1 14) (σ.1 15) (σ.2.1 13) (σ.2.1 14) (σ.2.1 15) (σ.2.1 16) (σ.2.1 10) (σ.2.1 27) (σ.2.1 28) (σ.2.1 29) (σ.2.1 30) (σ.2.1 31) (σ.2.1 32) (σ.2.1 33) (σ.2.1 34) (σ.2.1 35) (σ.2.1 36) (σ.2.1 37) from CJ), (show J_bp (σ.2.1 44) (σ.2.1 45) from BP), (show J_nl (σ.1 3) (σ.2.1 2) (σ.2.1 3) (σ.2.1 4) from NL), (show 4 = 0 → J_rs (σ.1 35) (σ.1 7) (σ.1 6) (σ.1 36) (σ.1 37) (σ.1 5) (σ.1 8) (σ.2.1 14) from by (first | (intro z; exfalso; omega) | exact q1_15 | exact q4_15 | exact q7_15 | (intro z; have w := q15_2 z; unfold J_rs; rw [G14, W7]; omega) | (intro z; unfold J_rs; rw [G14, W7]; omega) | (first | (intro z; exfalso; omega) | (intro z; unfold J_rs; omega) | (intro z; unfold J_rs; rw [G14, W7]; omega)) | fail)), (show 4 = 0 → 5 ≤ (σ.1 35) → 1 ≤ (σ.1 36) → 0 ≤ σ.2.1 10 (σ.2.1 15 (σ.2.1 14 (σ.1 7))) from by (first | (intro z; exfalso; omega) | exact q1_16 | exact q4_16 | exact q7_16 | (intro z y y2; exfalso; omega) | (intro z y; have w := q15_2 z; exfalso; omega) | (first | (intro z; exfalso; omega) | (intro z y; exfalso; omega) | exact fun _ => uc | (intro z y y2; exact uc (by omega) (by omega)) | (intro z y y2; exfalso; omega) | (intro z y y2; rw [G10, G14, G15, W7]; exact uc (by omega) (by omega))) | fail)), (show 4 = 0 → (σ.1 35) = 4 → j_in (σ.1 36) 1000 (σ.2.1 54) from by (first | (intro z; exfalso; omega) | exact q1_17 | exact q4_17 | exact q7_17 | (intro z y; rw [show τ17.1 36 = 0 from (q15_2 z).1]; exact j_in0 _ _) | (first | (intro z; exfalso; omega) | (intro z y; exfalso; omega) | exact fun _ => dj) | fail)), (show 4 = 0 → 5 ≤ (σ.1 35) → J_ip (σ.1 7) (σ.1 6) (σ.1 37) (σ.2.1 14) (σ.2.1 15) (σ.2.1 16) (σ.2.1 19) from by (first | (intro z; exfalso; omega) | exact q1_18 | exact q4_18 | exact q7_18 | (intro z y; have w := q15_2 z; exfalso; omega) | (intro z y; exact J_ip0 (by rw [W6, G14, W7]; omega)) | (first | (intro z; exfalso; omega) | (intro z y; exfalso; omega) | exact fun _ => ipx | (intro z y; exact ipx (by omega)) | (intro z y; rw [W7, W6, W37, G14, G15, G16, G19]; exact ipx (by omega))) | fail)), (show 4 = 0 → ((σ.1 35) ≤ 5 → (σ.1 13) ≤ 60 * (σ.1 7)) ∧ (σ.1 13) ≤ 60 * (σ.1 7) + 60 from by (first | (intro z; exfalso; omega) | exact q1_19 | exact q4_19 | exact q7_19 | (intro z; omega) | fail)), (show 4 = 0 → 6 ≤ (σ.1 35) → (σ.1 24) = (σ.1 7) ∧ J_f (σ.1 7) (σ.1 13) (σ.1 14) (σ.2.1 13) (σ.2.1 14) (σ.2.1 15) (σ.2.1 16) (σ.2.1 27) (σ.2.1 28) (σ.2.1 29) (σ.2.1 30) (σ.2.1 31) (σ.2.1 32) from by (first | (intro z; exfalso; omega) | exact q1_20 | exact q4_20 | exact q7_20 | (intro z y; have w := q15_2 z; exfalso; omega) | (intro z y; exfalso; omega) | (first | (intro z; exfalso; omega) | (intro z y; exfalso; omega) | exact fun _ => frx | (intro z y; exact frx (by omega)) | (intro z y; have w := frx (by omega); rw [W7, W13, W14, W24, G13, G14, G15, G16, G27, G28, G29, G30, G31, G32]; exact w)) | fail)), (show 4 = 0 → 6 ≤ (σ.1 35) → J_sp (σ.1 24) (σ.1 21) (σ.1 23) (σ.1 22) (σ.2.1 49) (σ.2.1 51) ∧ ((σ.1 16) + (σ.1 21) ≤ 20000) ∧ (¬ (σ.1 27) = 0 → 1 ≤ (σ.1 21) ∧ 0 ≤ σ.2.1 49 ((σ.1 21) - 1) ∧ σ.2.1 49 ((σ.1 21) - 1) < 65536) ∧ ((σ.1 26) ≤ 1000000) ∧ ((σ.1 25) ≤ 2 → (σ.1 27) = 0) from by (first | (intro z; exfalso; omega) | exact q1_21 | exact q4_21 | exact q7_21 | (intro z y; have w := q15_2 z; exfalso; omega) | (intro z y; exfalso; omega) | (first | (intro z; exfalso; omega) | (intro z y; exfalso; omega) | exact fun _ => spx | (intro z y; exact spx (by omega))) | fail)), (show 4 = 0 → (σ.1 15) ≤ (σ.1 16) ∧ σ.2.1 36 (σ.1 15) ≤ (σ.1 16) from by (first | (intro z; exfalso; omega) | exact q1_22 | exact q4_22 | exact q7_22 | (intro z; first | exact sux | omega) | fail)), (show 4 = 0 → (σ.1 9) ≤ (σ.1 7) from by (first | (intro z; exfalso; omega) | exact q1_23 | exact q4_23 | exact q7_23 | (intro z; omega) | fail)), (show j_rr ((σ.1 5)) (σ.2.1 10) (σ.2.1 10) from by (first | exact j_rr0 _ _ | exact q1_24 | exact q4_24 | exact q7_24 | (rw [G10]; exact j_rr0 _ _) | fail)), (show j_eq (σ.2.1 36 (σ.1 15)) (σ.2.1 37) (σ.2.1 37) from CH), (show (σ.1 12) ≤ (σ.1 12) + 1 from by (first | assumption | omega | (simp only [st_s] <;> omega) | fail)), (show c_Y σ σ from by (first | exact c_Y0 _ | exact c_Y_g W4 G11 G20 G22 G25 | exact q1_27 | exact q4_27 | exact q7_27 | exact c_Y_g (by omega) (by rw [g11_τ4]) (by rw [g20_τ4]) (by rw [g22_τ4]) (by rw [g25_τ4]) | exact c_Y_g (by omega) (by rw [g11_τ13]) (by rw [g20_τ13]) (by rw [g22_τ13]) (by rw [g25_τ13]) | exact c_Y_g (by omega) (by rw [g11_τ17]) (by rw [g20_τ17]) (by rw [g22_τ17]) (by rw [g25_τ17]) | fail)), ag⟩
    ·
      refine ⟨_, K2_X7_declaration hT, ?_⟩
      intro x16 τ17 r_x16 hn_τ17 hf_τ17 hq
      obtain ⟨hT, q15_1, q15_2⟩ := hq
      replace q15_1 : 0 ≤ x16 ∧ x16 ≤ 19 := q15_1
      replace q15_2 : x16 = 0 → (τ17.1 36) = 0 ∧ 2 ≤ (τ17.1 35) ∧ (τ17.1 35) ≤ 4 := q15_2
      replace ag : c_ag σ τ17 := ag_r ag hf_τ17 rfl rfl
      have w3_τ17 : τ17.1 3 = σ.1 3 := hf_τ17.1 3 (by decide)
      have w4_τ17 : τ17.1 4 = σ.1 4 := hf_τ17.1 4 (by decide)
      have w5_τ17 : τ17.1 5 = σ.1 5 := hf_τ17.1 5 (by decide)
      have w6_τ17 : τ17.1 6 = σ.1 6 := hf_τ17.1 6 (by decide)
      have w7_τ17 : τ17.1 7 = σ.1 7 := hf_τ17.1 7 (by decide)
      have w8_τ17 : τ17.1 8 = σ.1 8 := hf_τ17.1 8 (by decide)
      have w9_τ17 : τ17.1 9 = σ.1 9 := hf_τ17.1 9 (by decide)
      have w10_τ17 : τ17.1 10 = σ.1 10 := hf_τ17.1 10 (by decide)
      have w11_τ17 : τ17.1 11 = σ.1 11 := hf_τ17.1 11 (by decide)
      have w12_τ17 : τ17.1 12 = σ.1 12 := hf_τ17.1 12 (by decide)
      have w13_τ17 : τ17.1 13 = σ.1 13 := hf_τ17.1 13 (by decide)
      have w14_τ17 : τ17.1 14 = σ.1 14 := hf_τ17.1 14 (by decide)
      have w15_τ17 : τ17.1 15 = σ.1 15 := hf_τ17.1 15 (by decide)
      have w16_τ17 : τ17.1 16 = σ.1 16 := hf_τ17.1 16 (by decide)
      have w21_τ17 : τ17.1 21 = σ.1 21 := hf_τ17.1 21 (by decide)
      have w22_τ17 : τ17.1 22 = σ.1 22 := hf_τ17.1 22 (by decide)
      have w23_τ17 : τ17.1 23 = σ.1 23 := hf_τ17.1 23 (by decide)
      have w24_τ17 : τ17.1 24 = σ.1 24 := hf_τ17.1 24 (by decide)
      have w25_τ17 : τ17.1 25 = σ.1 25 := hf_τ17.1 25 (by decide)
      have w26_τ17 : τ17.1 26 = σ.1 26 := hf_τ17.1 26 (by decide)
      have w27_τ17 : τ17.1 27 = σ.1 27 := hf_τ17.1 27 (by decide)
      have w37_τ17 : τ17.1 37 = σ.1 37 := hf_τ17.1 37 (by decide)
      have g2_τ17 : τ17.2.1 2 = σ.2.1 2 := hf_τ17.2.1 2 (by decide)
      have g3_τ17 : τ17.2.1 3 = σ.2.1 3 := hf_τ17.2.1 3 (by decide)
      have g4_τ17 : τ17.2.1 4 = σ.2.1 4 := hf_τ17.2.1 4 (by decide)
      have g5_τ17 : τ17.2.1 5 = σ.2.1 5 := hf_τ17.2.1 5 (by decide)
      have g6_τ17 : τ17.2.1 6 = σ.2.1 6 := hf_τ17.2.1 6 (by decide)
      have g8_τ17 : τ17.2.1 8 = σ.2.1 8 := hf_τ17.2.1 8 (by decide)
      have g9_τ17 : τ17.2.1 9 = σ.2.1 9 := hf_τ17.2.1 9 (by decide)
      have g10_τ17 : τ17.2.1 10 = σ.2.1 10 := hf_τ17.2.1 10 (by decide)
      have g11_τ17 : τ17.2.1 11 = σ.2.1 11 := hf_τ17.2.1 11 (by decide)
      have g13_τ17 : τ17.2.1 13 = σ.2.1 13 := hf_τ17.2.1 13 (by decide)
      have g14_τ17 : τ17.2.1 14 = σ.2.1 14 := hf_τ17.2.1 14 (by decide)
      have g15_τ17 : τ17.2.1 15 = σ.2.1 15 := hf_τ17.2.1 15 (by decide)
      have g16_τ17 : τ17.2.1 16 = σ.2.1 16 := hf_τ17.2.1 16 (by decide)
      have g18_τ17 : τ17.2.1 18 = σ.2.1 18 := hf_τ17.2.1 18 (by decide)
      have g19_τ17 : τ17.2.1 19 = σ.2.1 19 := hf_τ17.2.1 19 (by decide)
      have g20_τ17 : τ17.2.1 20 = σ.2.1 20 := hf_τ17.2.1 20 (by decide)
      have g22_τ17 : τ17.2.1 22 = σ.2.1 22 := hf_τ17.2.1 22 (by decide)
      have g23_τ17 : τ17.2.1 23 = σ.2.1 23 := hf_τ17.2.1 23 (by decide)
      have g24_τ17 : τ17.2.1 24 = σ.2.1 24 := hf_τ17.2.1 24 (by decide)
      have g25_τ17 : τ17.2.1 25 = σ.2.1 25 := hf_τ17.2.1 25 (by decide)
      have g26_τ17 : τ17.2.1 26 = σ.2.1 26 := hf_τ17.2.1 26 (by decide)
      have g27_τ17 : τ17.2.1 27 = σ.2.1 27 := hf_τ17.2.1 27 (by decide)
      have g28_τ17 : τ17.2.1 28 = σ.2.1 28 := hf_τ17.2.1 28 (by decide)
      have g29_τ17 : τ17.2.1 29 = σ.2.1 29 := hf_τ17.2.1 29 (by decide)
      have g30_τ17 : τ17.2.1 30 = σ.2.1 30 := hf_τ17.2.1 30 (by decide)
      have g31_τ17 : τ17.2.1 31 = σ.2.1 31 := hf_τ17.2.1 31 (by decide)
      have g32_τ17 : τ17.2.1 32 = σ.2.1 32 := hf_τ17.2.1 32 (by decide)
      have g33_τ17 : τ17.2.1 33 = σ.2.1 33 := hf_τ17.2.1 33 (by decide)
      have g34_τ17 : τ17.2.1 34 = σ.2.1 34 := hf_τ17.2.1 34 (by decide)
      have g35_τ17 : τ17.2.1 35 = σ.2.1 35 := hf_τ17.2.1 35 (by decide)
      have g36_τ17 : τ17.2.1 36 = σ.2.1 36 := hf_τ17.2.1 36 (by decide)
      have g37_τ17 : τ17.2.1 37 = σ.2.1 37 := hf_τ17.2.1 37 (by decide)
      have g44_τ17 : τ17.2.1 44 = σ.2.1 44 := hf_τ17.2.1 44 (by decide)
      have g45_τ17 : τ17.2.1 45 = σ.2.1 45 := hf_τ17.2.1 45 (by decide)
      have g49_τ17 : τ17.2.1 49 = σ.2.1 49 := hf_τ17.2.1 49 (by decide)
      have g51_τ17 : τ17.2.1 51 = σ.2.1 51 := hf_τ17.2.1 51 (by decide)
      have g54_τ17 : τ17.2.1 54 = σ.2.1 54 := hf_τ17.2.1 54 (by decide)
      have W3 : τ17.1 3 = σ.1 3 := by omega
      have W4 : τ17.1 4 = σ.1 4 := by omega
      have W5 : τ17.1 5 = σ.1 5 := by omega
      have W6 : τ17.1 6 = σ.1 6 := by omega
      have W7 : τ17.1 7 = σ.1 7 := by omega
      have W15 : τ17.1 15 = σ.1 15 := by omega
      have W16 : τ17.1 16 = σ.1 16 := by omega
      have G2 : τ17.2.1 2 = σ.2.1 2 := (g2_τ17).trans G2
      have G3 : τ17.2.1 3 = σ.2.1 3 := (g3_τ17).trans G3
      have G4 : τ17.2.1 4 = σ.2.1 4 := (g4_τ17).trans G4
      have G5 : τ17.2.1 5 = σ.2.1 5 := (g5_τ17).trans G5
      have G6 : τ17.2.1 6 = σ.2.1 6 := (g6_τ17).trans G6
      have G8 : τ17.2.1 8 = σ.2.1 8 := (g8_τ17).trans G8
      have G9 : τ17.2.1 9 = σ.2.1 9 := (g9_τ17).trans G9
      have G10 : τ17.2.1 10 = σ.2.1 10 := (g10_τ17).trans G10
      have G11 : τ17.2.1 11 = σ.2.1 11 := (g11_τ17).trans G11
      have G13 : τ17.2.1 13 = σ.2.1 13 := (g13_τ17).trans G13
      have G14 : τ17.2.1 14 = σ.2.1 14 := (g14_τ17).trans G14
      have G15 : τ17.2.1 15 = σ.2.1 15 := (g15_τ17).trans G15
      have G16 : τ17.2.1 16 = σ.2.1 16 := (g16_τ17).trans G16
      have G20 : τ17.2.1 20 = σ.2.1 20 := (g20_τ17).trans G20
      have G22 : τ17.2.1 22 = σ.2.1 22 := (g22_τ17).trans G22
      have G23 : τ17.2.1 23 = σ.2.1 23 := (g23_τ17).trans G23
      have G24 : τ17.2.1 24 = σ.2.1 24 := (g24_τ17).trans G24
      have G33 : τ17.2.1 33 = σ.2.1 33 := (g33_τ17).trans G33
      have G34 : τ17.2.1 34 = σ.2.1 34 := (g34_τ17).trans G34
      have G35 : τ17.2.1 35 = σ.2.1 35 := (g35_τ17).trans G35
      have G36 : τ17.2.1 36 = σ.2.1 36 := (g36_τ17).trans G36
      have G37 : τ17.2.1 37 = σ.2.1 37 := (g37_τ17).trans G37
      have G44 : τ17.2.1 44 = σ.2.1 44 := (g44_τ17).trans G44
      have G45 : τ17.2.1 45 = σ.2.1 45 := (g45_τ17).trans G45
      have G49 : τ17.2.1 49 = σ.2.1 49 := (g49_τ17).trans G49
      have G51 : τ17.2.1 51 = σ.2.1 51 := (g51_τ17).trans G51
      have G54 : τ17.2.1 54 = σ.2.1 54 := (g54_τ17).trans G54
      have y14_7_τ17 : τ17.2.1 14 (τ17.1 7) = (σ.2.1 14) (σ.1 7) := by rw [g14_τ17, w7_τ17]
      have y36_15_τ17 : τ17.2.1 36 (τ17.1 15) = (σ.2.1 36) (σ.1 15) := by rw [g36_τ17, w15_τ17]
      have HT : J_ht (τ17.1 3) (τ17.2.1 2) (τ17.2.1 3) (τ17.2.1 5) (τ17.2.1 6) := by rw [show (J_ht (τ17.1 3) (τ17.2.1 2) (τ17.2.1 3) (τ17.2.1 5) (τ17.2.1 6)) = (J_ht (σ.1 3) (σ.2.1 2) (σ.2.1 3) (σ.2.1 5) (σ.2.1 6)) from by rw [w3_τ17, g2_τ17, g3_τ17, g5_τ17, g6_τ17]]; exact HT
      have NL : J_nl (τ17.1 3) (τ17.2.1 2) (τ17.2.1 3) (τ17.2.1 4) := by rw [show (J_nl (τ17.1 3) (τ17.2.1 2) (τ17.2.1 3) (τ17.2.1 4)) = (J_nl (σ.1 3) (σ.2.1 2) (σ.2.1 3) (σ.2.1 4)) from by rw [w3_τ17, g2_τ17, g3_τ17, g4_τ17]]; exact NL
      have MN : J_mn (τ17.1 3) (τ17.1 5) ((τ17.1 7) + 1) (τ17.2.1 4) := by rw [show (J_mn (τ17.1 3) (τ17.1 5) ((τ17.1 7) + 1) (τ17.2.1 4)) = (J_mn (σ.1 3) (σ.1 5) ((σ.1 7) + 1) (σ.2.1 4)) from by rw [w3_τ17, w5_τ17, w7_τ17, g4_τ17]]; exact MN
      have VA : J_va (τ17.1 8) 1000 (τ17.2.1 18) (τ17.2.1 20) := by rw [show (J_va (τ17.1 8) 1000 (τ17.2.1 18) (τ17.2.1 20)) = (J_va (σ.1 8) 1000 (σ.2.1 18) (σ.2.1 20)) from by rw [w8_τ17, g18_τ17, g20_τ17]]; exact VA
      have SC : J_sc (τ17.1 7) (τ17.1 9) (τ17.2.1 13) (τ17.2.1 14) (τ17.2.1 15) (τ17.2.1 16) (τ17.2.1 22) (τ17.2.1 19) := by rw [show (J_sc (τ17.1 7) (τ17.1 9) (τ17.2.1 13) (τ17.2.1 14) (τ17.2.1 15) (τ17.2.1 16) (τ17.2.1 22) (τ17.2.1 19)) = (J_sc (σ.1 7) (σ.1 9) (σ.2.1 13) (σ.2.1 14) (σ.2.1 15) (σ.2.1 16) (σ.2.1 22) (σ.2.1 19)) from by rw [w7_τ17, w9_τ17, g13_τ17, g14_τ17, g15_τ17, g16_τ17, g19_τ17, g22_τ17]]; exact SC
      have MK : J_mk (τ17.1 11) (τ17.1 8) (τ17.1 9) (τ17.1 10) (τ17.2.1 25) := by rw [show (J_mk (τ17.1 11) (τ17.1 8) (τ17.1 9) (τ17.1 10) (τ17.2.1 25)) = (J_mk (σ.1 11) (σ.1 8) (σ.1 9) (σ.1 10) (σ.2.1 25)) from by rw [w8_τ17, w9_τ17, w10_τ17, w11_τ17, g25_τ17]]; exact MK
      have FF : J_ff (τ17.1 5) (τ17.1 7) (τ17.2.1 9) (τ17.2.1 13) (τ17.2.1 14) (τ17.2.1 15) := by rw [show (J_ff (τ17.1 5) (τ17.1 7) (τ17.2.1 9) (τ17.2.1 13) (τ17.2.1 14) (τ17.2.1 15)) = (J_ff (σ.1 5) (σ.1 7) (σ.2.1 9) (σ.2.1 13) (σ.2.1 14) (σ.2.1 15)) from by rw [w5_τ17, w7_τ17, g9_τ17, g13_τ17, g14_τ17, g15_τ17]]; exact FF
      have MT : ∀ s : Int, τ17.2.1 26 s ≤ (τ17.1 12) := by rw [show (∀ s : Int, τ17.2.1 26 s ≤ (τ17.1 12)) = (∀ s : Int, σ.2.1 26 s ≤ (σ.1 12)) from by rw [w12_τ17, g26_τ17]]; exact MT
      have VS : J_vs (τ17.1 8) (τ17.1 5) (τ17.2.1 20) := by rw [show (J_vs (τ17.1 8) (τ17.1 5) (τ17.2.1 20)) = (J_vs (σ.1 8) (σ.1 5) (σ.2.1 20)) from by rw [w5_τ17, w8_τ17, g20_τ17]]; exact VS
      have TX : J_vs (τ17.1 6) (τ17.1 5) (τ17.2.1 15) := by rw [show (J_vs (τ17.1 6) (τ17.1 5) (τ17.2.1 15)) = (J_vs (σ.1 6) (σ.1 5) (σ.2.1 15)) from by rw [w5_τ17, w6_τ17, g15_τ17]]; exact TX
      have RKS : J_rks (τ17.1 5) (τ17.1 4) (τ17.2.1 10) (τ17.2.1 11) := by rw [show (J_rks (τ17.1 5) (τ17.1 4) (τ17.2.1 10) (τ17.2.1 11)) = (J_rks (σ.1 5) (σ.1 4) (σ.2.1 10) (σ.2.1 11)) from by rw [w4_τ17, w5_τ17, g10_τ17, g11_τ17]]; exact RKS
      have CJ : J_all (τ17.1 7) (τ17.1 6) (τ17.1 13) (τ17.1 14) (τ17.1 15) (τ17.2.1 13) (τ17.2.1 14) (τ17.2.1 15) (τ17.2.1 16) (τ17.2.1 10) (τ17.2.1 27) (τ17.2.1 28) (τ17.2.1 29) (τ17.2.1 30) (τ17.2.1 31) (τ17.2.1 32) (τ17.2.1 33) (τ17.2.1 34) (τ17.2.1 35) (τ17.2.1 36) (τ17.2.1 37) := by rw [show (J_all (τ17.1 7) (τ17.1 6) (τ17.1 13) (τ17.1 14) (τ17.1 15) (τ17.2.1 13) (τ17.2.1 14) (τ17.2.1 15) (τ17.2.1 16) (τ17.2.1 10) (τ17.2.1 27) (τ17.2.1 28) (τ17.2.1 29) (τ17.2.1 30) (τ17.2.1 31) (τ17.2.1 32) (τ17.2.1 33) (τ17.2.1 34) (τ17.2.1 35) (τ17.2.1 36) (τ17.2.1 37)) = (J_all (σ.1 7) (σ.1 6) (σ.1 13) (σ.1 14) (σ.1 15) (σ.2.1 13) (σ.2.1 14) (σ.2.1 15) (σ.2.1 16) (σ.2.1 10) (σ.2.1 27) (σ.2.1 28) (σ.2.1 29) (σ.2.1 30) (σ.2.1 31) (σ.2.1 32) (σ.2.1 33) (σ.2.1 34) (σ.2.1 35) (σ.2.1 36) (σ.2.1 37)) from by rw [w6_τ17, w7_τ17, w13_τ17, w14_τ17, w15_τ17, g10_τ17, g13_τ17, g14_τ17, g15_τ17, g16_τ17, g27_τ17, g28_τ17, g29_τ17, g30_τ17, g31_τ17, g32_τ17, g33_τ17, g34_τ17, g35_τ17, g36_τ17, g37_τ17]]; exact CJ
      have BP : J_bp (τ17.2.1 44) (τ17.2.1 45) := by rw [show (J_bp (τ17.2.1 44) (τ17.2.1 45)) = (J_bp (σ.2.1 44) (σ.2.1 45)) from by rw [g44_τ17, g45_τ17]]; exact BP
      have CH : j_eq (σ.2.1 36 (σ.1 15)) (σ.2.1 37) (τ17.2.1 37) := by rw [show (j_eq (σ.2.1 36 (σ.1 15)) (σ.2.1 37) (τ17.2.1 37)) = (j_eq (σ.2.1 36 (σ.1 15)) (σ.2.1 37) (σ.2.1 37)) from by rw [g37_τ17]]; exact CH
      have A2 : ∀ j, 0 ≤ τ17.2.1 2 j ∧ τ17.2.1 2 j ≤ 65535 := fun j => hT.2 2 j
      have A3 : ∀ j, 0 ≤ τ17.2.1 3 j ∧ τ17.2.1 3 j ≤ 30000 := fun j => hT.2 3 j
      have A4 : ∀ j, (-1000) ≤ τ17.2.1 4 j ∧ τ17.2.1 4 j ≤ 1499 := fun j => hT.2 4 j
      have A5 : ∀ j, 0 ≤ τ17.2.1 5 j ∧ τ17.2.1 5 j ≤ 2500 := fun j => hT.2 5 j
      have A6 : ∀ j, 0 ≤ τ17.2.1 6 j ∧ τ17.2.1 6 j ≤ 2500 := fun j => hT.2 6 j
      have A8 : ∀ j, 0 ≤ τ17.2.1 8 j ∧ τ17.2.1 8 j ≤ 1 := fun j => hT.2 8 j
      have A9 : ∀ j, (-1) ≤ τ17.2.1 9 j ∧ τ17.2.1 9 j ≤ 1499 := fun j => hT.2 9 j
      have A10 : ∀ j, (-1) ≤ τ17.2.1 10 j ∧ τ17.2.1 10 j ≤ 99 := fun j => hT.2 10 j
      have A11 : ∀ j, 0 ≤ τ17.2.1 11 j ∧ τ17.2.1 11 j ≤ 999 := fun j => hT.2 11 j
      have A13 : ∀ j, 0 ≤ τ17.2.1 13 j ∧ τ17.2.1 13 j ≤ 4 := fun j => hT.2 13 j
      have A14 : ∀ j, 0 ≤ τ17.2.1 14 j ∧ τ17.2.1 14 j ≤ 30000 := fun j => hT.2 14 j
      have A15 : ∀ j, 0 ≤ τ17.2.1 15 j ∧ τ17.2.1 15 j ≤ 999 := fun j => hT.2 15 j
      have A16 : ∀ j, (-1) ≤ τ17.2.1 16 j ∧ τ17.2.1 16 j ≤ 1499 := fun j => hT.2 16 j
      have A18 : ∀ j, 0 ≤ τ17.2.1 18 j ∧ τ17.2.1 18 j ≤ 1 := fun j => hT.2 18 j
      have A19 : ∀ j, (-1) ≤ τ17.2.1 19 j ∧ τ17.2.1 19 j ≤ 1499 := fun j => hT.2 19 j
      have A20 : ∀ j, 0 ≤ τ17.2.1 20 j ∧ τ17.2.1 20 j ≤ 999 := fun j => hT.2 20 j
      have A22 : ∀ j, 0 ≤ τ17.2.1 22 j ∧ τ17.2.1 22 j ≤ 1499 := fun j => hT.2 22 j
      have A23 : ∀ j, 0 ≤ τ17.2.1 23 j ∧ τ17.2.1 23 j ≤ 999 := fun j => hT.2 23 j
      have A24 : ∀ j, 0 ≤ τ17.2.1 24 j ∧ τ17.2.1 24 j ≤ 999 := fun j => hT.2 24 j
      have A26 : ∀ j, (-2147483648) ≤ τ17.2.1 26 j ∧ τ17.2.1 26 j ≤ 2147483647 := fun j => hT.2 26 j
      have A27 : ∀ j, 0 ≤ τ17.2.1 27 j ∧ τ17.2.1 27 j ≤ 90000 := fun j => hT.2 27 j
      have A28 : ∀ j, 0 ≤ τ17.2.1 28 j ∧ τ17.2.1 28 j ≤ 60 := fun j => hT.2 28 j
      have A29 : ∀ j, 0 ≤ τ17.2.1 29 j ∧ τ17.2.1 29 j ≤ 1499 := fun j => hT.2 29 j
      have A30 : ∀ j, 0 ≤ τ17.2.1 30 j ∧ τ17.2.1 30 j ≤ 20000 := fun j => hT.2 30 j
      have A31 : ∀ j, 0 ≤ τ17.2.1 31 j ∧ τ17.2.1 31 j ≤ 20000 := fun j => hT.2 31 j
      have A32 : ∀ j, 0 ≤ τ17.2.1 32 j ∧ τ17.2.1 32 j ≤ 999999 := fun j => hT.2 32 j
      have A33 : ∀ j, 0 ≤ τ17.2.1 33 j ∧ τ17.2.1 33 j ≤ 20000 := fun j => hT.2 33 j
      have A34 : ∀ j, 0 ≤ τ17.2.1 34 j ∧ τ17.2.1 34 j ≤ 20000 := fun j => hT.2 34 j
      have A35 : ∀ j, 0 ≤ τ17.2.1 35 j ∧ τ17.2.1 35 j ≤ 1499 := fun j => hT.2 35 j
      have A36 : ∀ j, 0 ≤ τ17.2.1 36 j ∧ τ17.2.1 36 j ≤ 20000 := fun j => hT.2 36 j
      have A37 : ∀ j, 0 ≤ τ17.2.1 37 j ∧ τ17.2.1 37 j ≤ 19999 := fun j => hT.2 37 j
      have A44 : ∀ j, 0 ≤ τ17.2.1 44 j ∧ τ17.2.1 44 j ≤ 42000 := fun j => hT.2 44 j
      have A45 : ∀ j, 0 ≤ τ17.2.1 45 j ∧ τ17.2.1 45 j ≤ 1000 := fun j => hT.2 45 j
      have A49 : ∀ j, (-300) ≤ τ17.2.1 49 j ∧ τ17.2.1 49 j ≤ 67035 := fun j => hT.2 49 j
      have A51 : ∀ j, 0 ≤ τ17.2.1 51 j ∧ τ17.2.1 51 j ≤ 1499 := fun j => hT.2 51 j
      have A54 : ∀ j, 0 ≤ τ17.2.1 54 j ∧ τ17.2.1 54 j ≤ 999 := fun j => hT.2 54 j
      have v3 : 0 ≤ τ17.1 3 ∧ τ17.1 3 ≤ 2500 := hT.1 3
      have v4 : 0 ≤ τ17.1 4 ∧ τ17.1 4 ≤ 100 := hT.1 4
      have v5 : 0 ≤ τ17.1 5 ∧ τ17.1 5 ≤ 1000 := hT.1 5
      have v6 : 0 ≤ τ17.1 6 ∧ τ17.1 6 ≤ 30000 := hT.1 6
      have v7 : 0 ≤ τ17.1 7 ∧ τ17.1 7 ≤ 1500 := hT.1 7
      have v8 : 0 ≤ τ17.1 8 ∧ τ17.1 8 ≤ 1000 := hT.1 8
      have v9 : 0 ≤ τ17.1 9 ∧ τ17.1 9 ≤ 1500 := hT.1 9
      have v10 : 0 ≤ τ17.1 10 ∧ τ17.1 10 ≤ 1000 := hT.1 10
      have v11 : 0 ≤ τ17.1 11 ∧ τ17.1 11 ≤ 50 := hT.1 11
      have v12 : (-2147483648) ≤ τ17.1 12 ∧ τ17.1 12 ≤ 2147483647 := hT.1 12
      have v13 : 0 ≤ τ17.1 13 ∧ τ17.1 13 ≤ 90000 := hT.1 13
      have v14 : 0 ≤ τ17.1 14 ∧ τ17.1 14 ≤ 20000 := hT.1 14
      have v15 : 0 ≤ τ17.1 15 ∧ τ17.1 15 ≤ 20000 := hT.1 15
      have v16 : 0 ≤ τ17.1 16 ∧ τ17.1 16 ≤ 20000 := hT.1 16
      have v21 : 0 ≤ τ17.1 21 ∧ τ17.1 21 ≤ 20000 := hT.1 21
      have v22 : 0 ≤ τ17.1 22 ∧ τ17.1 22 ≤ 300 := hT.1 22
      have v23 : 0 ≤ τ17.1 23 ∧ τ17.1 23 ≤ 300 := hT.1 23
      have v24 : 0 ≤ τ17.1 24 ∧ τ17.1 24 ≤ 1499 := hT.1 24
      have v25 : 0 ≤ τ17.1 25 ∧ τ17.1 25 ≤ 3 := hT.1 25
      have v26 : 0 ≤ τ17.1 26 ∧ τ17.1 26 ≤ 5000010 := hT.1 26
      have v27 : 0 ≤ τ17.1 27 ∧ τ17.1 27 ≤ 1 := hT.1 27
      have v35 : 0 ≤ τ17.1 35 ∧ τ17.1 35 ≤ 7 := hT.1 35
      have v36 : 0 ≤ τ17.1 36 ∧ τ17.1 36 ≤ 1001 := hT.1 36
      have v37 : 0 ≤ τ17.1 37 ∧ τ17.1 37 ≤ 4 := hT.1 37
      have a14_7 : 0 ≤ τ17.2.1 14 (τ17.1 7) ∧ τ17.2.1 14 (τ17.1 7) ≤ 30000 := hT.2 14 _
      have a36_15 : 0 ≤ τ17.2.1 36 (τ17.1 15) ∧ τ17.2.1 36 (τ17.1 15) ≤ 20000 := hT.2 36 _
      have av13 : σ.1 13 ≤ τ17.1 13 := ag.1 13 (by decide)
      have av14 : σ.1 14 ≤ τ17.1 14 := ag.1 14 (by decide)
      exact ⟨hT, (show 0 ≤ x16 ∧ x16 ≤ 19 from by (first | assumption | omega | (simp only [st_s] <;> omega) | fail)), (show J_ht (τ17.1 3) (τ17.2.1 2) (τ17.2.1 3) (τ17.2.1 5) (τ17.2.1 6) from HT), (show J_mn (τ17.1 3) (τ17.1 5) ((τ17.1 7) + 1) (τ17.2.1 4) from MN), (show J_rks (τ17.1 5) (τ17.1 4) (τ17.2.1 10) (τ17.2.1 11) from RKS), (show J_vs (τ17.1 8) (τ17.1 5) (τ17.2.1 20) from VS), (show J_vs (τ17.1 6) (τ17.1 5) (τ17.2.1 15) from TX), (show J_va (τ17.1 8) 1000 (τ17.2.1 18) (τ17.2.1 20) from VA), (show J_mk (τ17.1 11) (τ17.1 8) (τ17.1 9) (τ17.1 10) (τ17.2.1 25) from MK), (show J_sc (τ17.1 7) (τ17.1 9) (τ17.2.1 13) (τ17.2.1 14) (τ17.2.1 15) (τ17.2.1 16) (τ17.2.1 22) (τ17.2.1 19) from SC), (show J_ff (τ17.1 5) (τ17.1 7) (τ17.2.1 9) (τ17.2.1 13) (τ17.2.1 14) (τ17.2.1 15) from FF), (show ∀ s : Int, τ17.2.1 26 s ≤ (τ17.1 12) from MT), (show J_all (τ17.1 7) (τ17.1 6) (τ17.1 13) (τ17.1 14) (τ17.1 15) (τ17.2.1 13) (τ17.2.1 14) (τ17.2.1 15) (τ17.2.1 16) (τ17.2.1 10) (τ17.2.1 27) (τ17.2.1 28) (τ17.2.1 29) (τ17.2.1 30) (τ17.2.1 31) (τ17.2.1 32) (τ17.2.1 33) (τ17.2.1 34) (τ17.2.1 35) (τ17.2.1 36) (τ17.2.1 37) from CJ), (show J_bp (τ17.2.1 44) (τ17.2.1 45) from BP), (show J_nl (τ17.1 3) (τ17.2.1 2) (τ17.2.1 3) (τ17.2.1 4) from NL), (show x16 = 0 → J_rs (τ17.1 35) (τ17.1 7) (τ17.1 6) (τ17.1 36) (τ17.1 37) (τ17.1 5) (τ17.1 8) (τ17.2.1 14) from by (first | (intro z; exfalso; omega) | exact q1_15 | exact q4_15 | exact q7_15 | (intro z; have w := q15_2 z; unfold J_rs; rw [G14, W7]; omega) | (intro z; unfold J_rs; rw [G14, W7]; omega) | (first | (intro z; exfalso; omega) | (intro z; unfold J_rs; omega) | (intro z; unfold J_rs; rw [G14, W7]; omega)) | fail)), (show x16 = 0 → 5 ≤ (τ17.1 35) → 1 ≤ (τ17.1 36) → 0 ≤ τ17.2.1 10 (τ17.2.1 15 (τ17.2.1 14 (τ17.1 7))) from by (first | (intro z; exfalso; omega) | exact q1_16 | exact q4_16 | exact q7_16 | (intro z y y2; exfalso; omega) | (intro z y; have w := q15_2 z; exfalso; omega) | (first | (intro z; exfalso; omega) | (intro z y; exfalso; omega) | exact fun _ => uc | (intro z y y2; exact uc (by omega) (by omega)) | (intro z y y2; exfalso; omega) | (intro z y y2; rw [G10, G14, G15, W7]; exact uc (by omega) (by omega))) | fail)), (show x16 = 0 → (τ17.1 35) = 4 → j_in (τ17.1 36) 1000 (τ17.2.1 54) from by (first | (intro z; exfalso; omega) | exact q1_17 | exact q4_17 | exact q7_17 | (intro z y; rw [show τ17.1 36 = 0 from (q15_2 z).1]; exact j_in0 _ _) | (first | (intro z; exfalso; omega) | (intro z y; exfalso; omega) | exact fun _ => dj) | fail)), (show x16 = 0 → 5 ≤ (τ17.1 35) → J_ip (τ17.1 7) (τ17.1 6) (τ17.1 37) (τ17.2.1 14) (τ17.2.1 15) (τ17.2.1 16) (τ17.2.1 19) from by (first | (intro z; exfalso; omega) | exact q1_18 | exact q4_18 | exact q7_18 | (intro z y; have w := q15_2 z; exfalso; omega) | (intro z y; exact J_ip0 (by rw [W6, G14, W7]; omega)) | (first | (intro z; exfalso; omega) | (intro z y; exfalso; omega) | exact fun _ => ipx | (intro z y; exact ipx (by omega)) | (intro z y; rw [W7, W6, W37, G14, G15, G16, G19]; exact ipx (by omega))) | fail)), (show x16 = 0 → ((τ17.1 35) ≤ 5 → (τ17.1 13) ≤ 60 * (τ17.1 7)) ∧ (τ17.1 13) ≤ 60 * (τ17.1 7) + 60 from by (first | (intro z; exfalso; omega) | exact q1_19 | exact q4_19 | exact q7_19 | (intro z; omega) | fail)), (show x16 = 0 → 6 ≤ (τ17.1 35) → (τ17.1 24) = (τ17.1 7) ∧ J_f (τ17.1 7) (τ17.1 13) (τ17.1 14) (τ17.2.1 13) (τ17.2.1 14) (τ17.2.1 15) (τ17.2.1 16) (τ17.2.1 27) (τ17.2.1 28) (τ17.2.1 29) (τ17.2.1 30) (τ17.2.1 31) (τ17.2.1 32) from by (first | (intro z; exfalso; omega) | exact q1_20 | exact q4_20 | exact q7_20 | (intro z y; have w := q15_2 z; exfalso; omega) | (intro z y; exfalso; omega) | (first | (intro z; exfalso; omega) | (intro z y; exfalso; omega) | exact fun _ => frx | (intro z y; exact frx (by omega)) | (intro z y; have w := frx (by omega); rw [W7, W13, W14, W24, G13, G14, G15, G16, G27, G28, G29, G30, G31, G32]; exact w)) | fail)), (show x16 = 0 → 6 ≤ (τ17.1 35) → J_sp (τ17.1 24) (τ17.1 21) (τ17.1 23) (τ17.1 22) (τ17.2.1 49) (τ17.2.1 51) ∧ ((τ17.1 16) + (τ17.1 21) ≤ 20000) ∧ (¬ (τ17.1 27) = 0 → 1 ≤ (τ17.1 21) ∧ 0 ≤ τ17.2.1 49 ((τ17.1 21) - 1) ∧ τ17.2.1 49 ((τ17.1 21) - 1) < 65536) ∧ ((τ17.1 26) ≤ 1000000) ∧ ((τ17.1 25) ≤ 2 → (τ17.1 27) = 0) from by (first | (intro z; exfalso; omega) | exact q1_21 | exact q4_21 | exact q7_21 | (intro z y; have w := q15_2 z; exfalso; omega) | (intro z y; exfalso; omega) | (first | (intro z; exfalso; omega) | (intro z y; exfalso; omega) | exact fun _ => spx | (intro z y; exact spx (by omega))) | fail)), (show x16 = 0 → (τ17.1 15) ≤ (τ17.1 16) ∧ τ17.2.1 36 (τ17.1 15) ≤ (τ17.1 16) from by (first | (intro z; exfalso; omega) | exact q1_22 | exact q4_22 | exact q7_22 | (intro z; first | exact sux | omega) | fail)), (show x16 = 0 → (τ17.1 9) ≤ (τ17.1 7) from by (first | (intro z; exfalso; omega) | exact q1_23 | exact q4_23 | exact q7_23 | (intro z; omega) | fail)), (show j_rr ((σ.1 5)) (σ.2.1 10) (τ17.2.1 10) from by (first | exact j_rr0 _ _ | exact q1_24 | exact q4_24 | exact q7_24 | (rw [G10]; exact j_rr0 _ _) | fail)), (show j_eq (σ.2.1 36 (σ.1 15)) (σ.2.1 37) (τ17.2.1 37) from CH), (show (τ17.1 12) ≤ (σ.1 12) + 1 from by (first | assumption | omega | (simp only [st_s] <;> omega) | fail)), (show c_Y σ τ17 from by (first | exact c_Y0 _ | exact c_Y_g W4 G11 G20 G22 G25 | exact q1_27 | exact q4_27 | exact q7_27 | exact c_Y_g (by omega) (by rw [g11_τ4]) (by rw [g20_τ4]) (by rw [g22_τ4]) (by rw [g25_τ4]) | exact c_Y_g (by omega) (by rw [g11_τ13]) (by rw [g20_τ13]) (by rw [g22_τ13]) (by rw [g25_τ13]) | exact c_Y_g (by omega) (by rw [g11_τ17]) (by rw [g20_τ17]) (by rw [g22_τ17]) (by rw [g25_τ17]) | fail)), ag⟩
  ·
    refine ⟨_, K_X7_openScope hT (show J_ht (σ.1 3) (σ.2.1 2) (σ.2.1 3) (σ.2.1 5) (σ.2.1 6) from HT) (show J_mn (σ.1 3) (σ.1 5) ((σ.1 7) + 1) (σ.2.1 4) from MN) (show J_rks (σ.1 5) (σ.1 4) (σ.2.1 10) (σ.2.1 11) from RKS) (show J_vs (σ.1 8) (σ.1 5) (σ.2.1 20) from VS) (show J_vs (σ.1 6) (σ.1 5) (σ.2.1 15) from TX) (show J_va (σ.1 8) 1000 (σ.2.1 18) (σ.2.1 20) from VA) (show J_mk (σ.1 11) (σ.1 8) (σ.1 9) (σ.1 10) (σ.2.1 25) from MK) (show J_sc (σ.1 7) (σ.1 9) (σ.2.1 13) (σ.2.1 14) (σ.2.1 15) (σ.2.1 16) (σ.2.1 22) (σ.2.1 19) from SC) (show J_ff (σ.1 5) (σ.1 7) (σ.2.1 9) (σ.2.1 13) (σ.2.1 14) (σ.2.1 15) from FF) (show ∀ s : Int, σ.2.1 26 s ≤ (σ.1 12) from MT) (show J_all (σ.1 7) (σ.1 6) (σ.1 13) (σ.1 14) (σ.1 15) (σ.2.1 13) (σ.2.1 14) (σ.2.1 15) (σ.2.1 16) (σ.2.1 10) (σ.2.1 27) (σ.2.1 28) (σ.2.1 29) (σ.2.1 30) (σ.2.1 31) (σ.2.1 32) (σ.2.1 33) (σ.2.1 34) (σ.2.1 35) (σ.2.1 36) (σ.2.1 37) from CJ) (show J_bp (σ.2.1 44) (σ.2.1 45) from BP) (show J_nl (σ.1 3) (σ.2.1 2) (σ.2.1 3) (σ.2.1 4) from NL) (show J_rs (σ.1 35) (σ.1 7) (σ.1 6) (σ.1 36) (σ.1 37) (σ.1 5) (σ.1 8) (σ.2.1 14) from RS) (show 5 ≤ (σ.1 35) → 1 ≤ (σ.1 36) → 0 ≤ σ.2.1 10 (σ.2.1 15 (σ.2.1 14 (σ.1 7))) from by (first | assumption | omega | (simp only [st_s] <;> omega) | fail)) (show (σ.1 35) = 4 → j_in (σ.1 36) 1000 (σ.2.1 54) from by (first | assumption | omega | (simp only [st_s] <;> omega) | fail)) (show 5 ≤ (σ.1 35) → J_ip (σ.1 7) (σ.1 6) (σ.1 37) (σ.2.1 14) (σ.2.1 15) (σ.2.1 16) (σ.2.1 19) from by (first | assumption | omega | (simp only [st_s] <;> omega) | fail)) (show ((σ.1 35) ≤ 5 → (σ.1 13) ≤ 60 * (σ.1 7)) ∧ (σ.1 13) ≤ 60 * (σ.1 7) + 60 from by (first | assumption | omega | (simp only [st_s] <;> omega) | fail)) (show 6 ≤ (σ.1 35) → (σ.1 24) = (σ.1 7) ∧ J_f (σ.1 7) (σ.1 13) (σ.1 14) (σ.2.1 13) (σ.2.1 14) (σ.2.1 15) (σ.2.1 16) (σ.2.1 27) (σ.2.1 28) (σ.2.1 29) (σ.2.1 30) (σ.2.1 31) (σ.2.1 32) from by (first | assumption | omega | (simp only [st_s] <;> omega) | fail)) (show 6 ≤ (σ.1 35) → J_sp (σ.1 24) (σ.1 21) (σ.1 23) (σ.1 22) (σ.2.1 49) (σ.2.1 51) ∧ ((σ.1 16) + (σ.1 21) ≤ 20000) ∧ (¬ (σ.1 27) = 0 → 1 ≤ (σ.1 21) ∧ 0 ≤ σ.2.1 49 ((σ.1 21) - 1) ∧ σ.2.1 49 ((σ.1 21) - 1) < 65536) ∧ ((σ.1 26) ≤ 1000000) ∧ ((σ.1 25) ≤ 2 → (σ.1 27) = 0) from by (first | assumption | omega | (simp only [st_s] <;> omega) | fail)) (show (σ.1 15) ≤ (σ.1 16) ∧ σ.2.1 36 (σ.1 15) ≤ (σ.1 16) from by (first | assumption | omega | (simp only [st_s] <;> omega) | fail)) (show (σ.1 9) ≤ (σ.1 7) from by (first | assumption | omega | (simp only [st_s] <;> omega) | fail)), ?_⟩
    intro x5 τ6 r_x5 hn_τ6 hf_τ6 hq
    obtain ⟨hT, q4_1, q4_2, q4_3, q4_4, q4_5, q4_6, q4_7, q4_8, q4_9, q4_10, q4_11, q4_12, q4_13, q4_14, q4_15, q4_16, q4_17, q4_18, q4_19, q4_20, q4_21, q4_22, q4_23, q4_24, q4_25, q4_26, q4_27, q4_28⟩ := hq
    replace q4_1 : 0 ≤ x5 ∧ x5 ≤ 19 := q4_1
    replace q4_2 : J_ht (τ6.1 3) (τ6.2.1 2) (τ6.2.1 3) (τ6.2.1 5) (τ6.2.1 6) := q4_2
    replace q4_3 : J_mn (τ6.1 3) (τ6.1 5) ((τ6.1 7) + 1) (τ6.2.1 4) := q4_3
    replace q4_4 : J_rks (τ6.1 5) (τ6.1 4) (τ6.2.1 10) (τ6.2.1 11) := q4_4
    replace q4_5 : J_vs (τ6.1 8) (τ6.1 5) (τ6.2.1 20) := q4_5
    replace q4_6 : J_vs (τ6.1 6) (τ6.1 5) (τ6.2.1 15) := q4_6
    replace q4_7 : J_va (τ6.1 8) 1000 (τ6.2.1 18) (τ6.2.1 20) := q4_7
    replace q4_8 : J_mk (τ6.1 11) (τ6.1 8) (τ6.1 9) (τ6.1 10) (τ6.2.1 25) := q4_8
    replace q4_9 : J_sc (τ6.1 7) (τ6.1 9) (τ6.2.1 13) (τ6.2.1 14) (τ6.2.1 15) (τ6.2.1 16) (τ6.2.1 22) (τ6.2.1 19) := q4_9
    replace q4_10 : J_ff (τ6.1 5) (τ6.1 7) (τ6.2.1 9) (τ6.2.1 13) (τ6.2.1 14) (τ6.2.1 15) := q4_10
    replace q4_11 : ∀ s : Int, τ6.2.1 26 s ≤ (τ6.1 12) := q4_11
    replace q4_12 : J_all (τ6.1 7) (τ6.1 6) (τ6.1 13) (τ6.1 14) (τ6.1 15) (τ6.2.1 13) (τ6.2.1 14) (τ6.2.1 15) (τ6.2.1 16) (τ6.2.1 10) (τ6.2.1 27) (τ6.2.1 28) (τ6.2.1 29) (τ6.2.1 30) (τ6.2.1 31) (τ6.2.1 32) (τ6.2.1 33) (τ6.2.1 34) (τ6.2.1 35) (τ6.2.1 36) (τ6.2.1 37) := q4_12
    replace q4_13 : J_bp (τ6.2.1 44) (τ6.2.1 45) := q4_13
    replace q4_14 : J_nl (τ6.1 3) (τ6.2.1 2) (τ6.2.1 3) (τ6.2.1 4) := q4_14
    replace q4_15 : x5 = 0 → J_rs (τ6.1 35) (τ6.1 7) (τ6.1 6) (τ6.1 36) (τ6.1 37) (τ6.1 5) (τ6.1 8) (τ6.2.1 14) := q4_15
    replace q4_16 : x5 = 0 → 5 ≤ (τ6.1 35) → 1 ≤ (τ6.1 36) → 0 ≤ τ6.2.1 10 (τ6.2.1 15 (τ6.2.1 14 (τ6.1 7))) := q4_16
    replace q4_17 : x5 = 0 → (τ6.1 35) = 4 → j_in (τ6.1 36) 1000 (τ6.2.1 54) := q4_17
    replace q4_18 : x5 = 0 → 5 ≤ (τ6.1 35) → J_ip (τ6.1 7) (τ6.1 6) (τ6.1 37) (τ6.2.1 14) (τ6.2.1 15) (τ6.2.1 16) (τ6.2.1 19) := q4_18
    replace q4_19 : x5 = 0 → ((τ6.1 35) ≤ 5 → (τ6.1 13) ≤ 60 * (τ6.1 7)) ∧ (τ6.1 13) ≤ 60 * (τ6.1 7) + 60 := q4_19
    replace q4_20 : x5 = 0 → 6 ≤ (τ6.1 35) → (τ6.1 24) = (τ6.1 7) ∧ J_f (τ6.1 7) (τ6.1 13) (τ6.1 14) (τ6.2.1 13) (τ6.2.1 14) (τ6.2.1 15) (τ6.2.1 16) (τ6.2.1 27) (τ6.2.1 28) (τ6.2.1 29) (τ6.2.1 30) (τ6.2.1 31) (τ6.2.1 32) := q4_20
    replace q4_21 : x5 = 0 → 6 ≤ (τ6.1 35) → J_sp (τ6.1 24) (τ6.1 21) (τ6.1 23) (τ6.1 22) (τ6.2.1 49) (τ6.2.1 51) ∧ ((τ6.1 16) + (τ6.1 21) ≤ 20000) ∧ (¬ (τ6.1 27) = 0 → 1 ≤ (τ6.1 21) ∧ 0 ≤ τ6.2.1 49 ((τ6.1 21) - 1) ∧ τ6.2.1 49 ((τ6.1 21) - 1) < 65536) ∧ ((τ6.1 26) ≤ 1000000) ∧ ((τ6.1 25) ≤ 2 → (τ6.1 27) = 0) := q4_21
    replace q4_22 : x5 = 0 → (τ6.1 15) ≤ (τ6.1 16) ∧ τ6.2.1 36 (τ6.1 15) ≤ (τ6.1 16) := q4_22
    replace q4_23 : x5 = 0 → (τ6.1 9) ≤ (τ6.1 7) := q4_23
    replace q4_24 : j_rr ((σ.1 5)) (σ.2.1 10) (τ6.2.1 10) := q4_24
    replace q4_25 : j_eq (σ.2.1 36 (σ.1 15)) (σ.2.1 37) (τ6.2.1 37) := q4_25
    replace q4_26 : (τ6.1 12) ≤ (σ.1 12) + 1 := q4_26
    replace q4_27 : c_Y σ τ6 := q4_27
    replace q4_28 : c_ag σ τ6 := q4_28
    replace ag : c_ag σ τ6 := ag_t ag q4_28 rfl
    have w3_τ6 : τ6.1 3 = σ.1 3 := hf_τ6.1 3 (by decide)
    have w4_τ6 : τ6.1 4 = σ.1 4 := hf_τ6.1 4 (by decide)
    have w5_τ6 : τ6.1 5 = σ.1 5 := hf_τ6.1 5 (by decide)
    have w6_τ6 : τ6.1 6 = σ.1 6 := hf_τ6.1 6 (by decide)
    have w7_τ6 : τ6.1 7 = σ.1 7 := hf_τ6.1 7 (by decide)
    have w8_τ6 : τ6.1 8 = σ.1 8 := hf_τ6.1 8 (by decide)
    have w9_τ6 : τ6.1 9 = σ.1 9 := hf_τ6.1 9 (by decide)
    have w10_τ6 : τ6.1 10 = σ.1 10 := hf_τ6.1 10 (by decide)
    have w12_τ6 : τ6.1 12 = σ.1 12 := hf_τ6.1 12 (by decide)
    have w13_τ6 : τ6.1 13 = σ.1 13 := hf_τ6.1 13 (by decide)
    have w14_τ6 : τ6.1 14 = σ.1 14 := hf_τ6.1 14 (by decide)
    have w15_τ6 : τ6.1 15 = σ.1 15 := hf_τ6.1 15 (by decide)
    have w16_τ6 : τ6.1 16 = σ.1 16 := hf_τ6.1 16 (by decide)
    have w21_τ6 : τ6.1 21 = σ.1 21 := hf_τ6.1 21 (by decide)
    have w22_τ6 : τ6.1 22 = σ.1 22 := hf_τ6.1 22 (by decide)
    have w23_τ6 : τ6.1 23 = σ.1 23 := hf_τ6.1 23 (by decide)
    have w24_τ6 : τ6.1 24 = σ.1 24 := hf_τ6.1 24 (by decide)
    have w25_τ6 : τ6.1 25 = σ.1 25 := hf_τ6.1 25 (by decide)
    have w26_τ6 : τ6.1 26 = σ.1 26 := hf_τ6.1 26 (by decide)
    have w27_τ6 : τ6.1 27 = σ.1 27 := hf_τ6.1 27 (by decide)
    have w35_τ6 : τ6.1 35 = σ.1 35 := hf_τ6.1 35 (by decide)
    have w36_τ6 : τ6.1 36 = σ.1 36 := hf_τ6.1 36 (by decide)
    have w37_τ6 : τ6.1 37 = σ.1 37 := hf_τ6.1 37 (by decide)
    have g2_τ6 : τ6.2.1 2 = σ.2.1 2 := hf_τ6.2.1 2 (by decide)
    have g3_τ6 : τ6.2.1 3 = σ.2.1 3 := hf_τ6.2.1 3 (by decide)
    have g4_τ6 : τ6.2.1 4 = σ.2.1 4 := hf_τ6.2.1 4 (by decide)
    have g5_τ6 : τ6.2.1 5 = σ.2.1 5 := hf_τ6.2.1 5 (by decide)
    have g6_τ6 : τ6.2.1 6 = σ.2.1 6 := hf_τ6.2.1 6 (by decide)
    have g8_τ6 : τ6.2.1 8 = σ.2.1 8 := hf_τ6.2.1 8 (by decide)
    have g9_τ6 : τ6.2.1 9 = σ.2.1 9 := hf_τ6.2.1 9 (by decide)
    have g10_τ6 : τ6.2.1 10 = σ.2.1 10 := hf_τ6.2.1 10 (by decide)
    have g11_τ6 : τ6.2.1 11 = σ.2.1 11 := hf_τ6.2.1 11 (by decide)
    have g13_τ6 : τ6.2.1 13 = σ.2.1 13 := hf_τ6.2.1 13 (by decide)
    have g14_τ6 : τ6.2.1 14 = σ.2.1 14 := hf_τ6.2.1 14 (by decide)
    have g15_τ6 : τ6.2.1 15 = σ.2.1 15 := hf_τ6.2.1 15 (by decide)
    have g16_τ6 : τ6.2.1 16 = σ.2.1 16 := hf_τ6.2.1 16 (by decide)
    have g18_τ6 : τ6.2.1 18 = σ.2.1 18 := hf_τ6.2.1 18 (by decide)
    have g19_τ6 : τ6.2.1 19 = σ.2.1 19 := hf_τ6.2.1 19 (by decide)
    have g20_τ6 : τ6.2.1 20 = σ.2.1 20 := hf_τ6.2.1 20 (by decide)
    have g22_τ6 : τ6.2.1 22 = σ.2.1 22 := hf_τ6.2.1 22 (by decide)
    have g23_τ6 : τ6.2.1 23 = σ.2.1 23 := hf_τ6.2.1 23 (by decide)
    have g24_τ6 : τ6.2.1 24 = σ.2.1 24 := hf_τ6.2.1 24 (by decide)
    have g26_τ6 : τ6.2.1 26 = σ.2.1 26 := hf_τ6.2.1 26 (by decide)
    have g27_τ6 : τ6.2.1 27 = σ.2.1 27 := hf_τ6.2.1 27 (by decide)
    have g28_τ6 : τ6.2.1 28 = σ.2.1 28 := hf_τ6.2.1 28 (by decide)
    have g29_τ6 : τ6.2.1 29 = σ.2.1 29 := hf_τ6.2.1 29 (by decide)
    have g30_τ6 : τ6.2.1 30 = σ.2.1 30 := hf_τ6.2.1 30 (by decide)
    have g31_τ6 : τ6.2.1 31 = σ.2.1 31 := hf_τ6.2.1 31 (by decide)
    have g32_τ6 : τ6.2.1 32 = σ.2.1 32 := hf_τ6.2.1 32 (by decide)
    have g33_τ6 : τ6.2.1 33 = σ.2.1 33 := hf_τ6.2.1 33 (by decide)
    have g34_τ6 : τ6.2.1 34 = σ.2.1 34 := hf_τ6.2.1 34 (by decide)
    have g35_τ6 : τ6.2.1 35 = σ.2.1 35 := hf_τ6.2.1 35 (by decide)
    have g36_τ6 : τ6.2.1 36 = σ.2.1 36 := hf_τ6.2.1 36 (by decide)
    have g37_τ6 : τ6.2.1 37 = σ.2.1 37 := hf_τ6.2.1 37 (by decide)
    have g44_τ6 : τ6.2.1 44 = σ.2.1 44 := hf_τ6.2.1 44 (by decide)
    have g45_τ6 : τ6.2.1 45 = σ.2.1 45 := hf_τ6.2.1 45 (by decide)
    have g49_τ6 : τ6.2.1 49 = σ.2.1 49 := hf_τ6.2.1 49 (by decide)
    have g51_τ6 : τ6.2.1 51 = σ.2.1 51 := hf_τ6.2.1 51 (by decide)
    have g54_τ6 : τ6.2.1 54 = σ.2.1 54 := hf_τ6.2.1 54 (by decide)
    have W3 : τ6.1 3 = σ.1 3 := by omega
    have W4 : τ6.1 4 = σ.1 4 := by omega
    have W5 : τ6.1 5 = σ.1 5 := by omega
    have W6 : τ6.1 6 = σ.1 6 := by omega
    have W7 : τ6.1 7 = σ.1 7 := by omega
    have W15 : τ6.1 15 = σ.1 15 := by omega
    have W16 : τ6.1 16 = σ.1 16 := by omega
    have G2 : τ6.2.1 2 = σ.2.1 2 := (g2_τ6).trans G2
    have G3 : τ6.2.1 3 = σ.2.1 3 := (g3_τ6).trans G3
    have G4 : τ6.2.1 4 = σ.2.1 4 := (g4_τ6).trans G4
    have G5 : τ6.2.1 5 = σ.2.1 5 := (g5_τ6).trans G5
    have G6 : τ6.2.1 6 = σ.2.1 6 := (g6_τ6).trans G6
    have G8 : τ6.2.1 8 = σ.2.1 8 := (g8_τ6).trans G8
    have G9 : τ6.2.1 9 = σ.2.1 9 := (g9_τ6).trans G9
    have G10 : τ6.2.1 10 = σ.2.1 10 := (g10_τ6).trans G10
    have G11 : τ6.2.1 11 = σ.2.1 11 := (g11_τ6).trans G11
    have G13 : τ6.2.1 13 = σ.2.1 13 := (g13_τ6).trans G13
    have G14 : τ6.2.1 14 = σ.2.1 14 := (g14_τ6).trans G14
    have G15 : τ6.2.1 15 = σ.2.1 15 := (g15_τ6).trans G15
    have G16 : τ6.2.1 16 = σ.2.1 16 := (g16_τ6).trans G16
    have G20 : τ6.2.1 20 = σ.2.1 20 := (g20_τ6).trans G20
    have G22 : τ6.2.1 22 = σ.2.1 22 := (g22_τ6).trans G22
    have G23 : τ6.2.1 23 = σ.2.1 23 := (g23_τ6).trans G23
    have G24 : τ6.2.1 24 = σ.2.1 24 := (g24_τ6).trans G24
    have G33 : τ6.2.1 33 = σ.2.1 33 := (g33_τ6).trans G33
    have G34 : τ6.2.1 34 = σ.2.1 34 := (g34_τ6).trans G34
    have G35 : τ6.2.1 35 = σ.2.1 35 := (g35_τ6).trans G35
    have G36 : τ6.2.1 36 = σ.2.1 36 := (g36_τ6).trans G36
    have G37 : τ6.2.1 37 = σ.2.1 37 := (g37_τ6).trans G37
    have G44 : τ6.2.1 44 = σ.2.1 44 := (g44_τ6).trans G44
    have G45 : τ6.2.1 45 = σ.2.1 45 := (g45_τ6).trans G45
    have G49 : τ6.2.1 49 = σ.2.1 49 := (g49_τ6).trans G49
    have G51 : τ6.2.1 51 = σ.2.1 51 := (g51_τ6).trans G51
    have G54 : τ6.2.1 54 = σ.2.1 54 := (g54_τ6).trans G54
    have y14_7_τ6 : τ6.2.1 14 (τ6.1 7) = (σ.2.1 14) (σ.1 7) := by rw [g14_τ6, w7_τ6]
    have y36_15_τ6 : τ6.2.1 36 (τ6.1 15) = (σ.2.1 36) (σ.1 15) := by rw [g36_τ6, w15_τ6]
    have HT : J_ht (τ6.1 3) (τ6.2.1 2) (τ6.2.1 3) (τ6.2.1 5) (τ6.2.1 6) := q4_2
    have NL : J_nl (τ6.1 3) (τ6.2.1 2) (τ6.2.1 3) (τ6.2.1 4) := q4_14
    have MN : J_mn (τ6.1 3) (τ6.1 5) ((τ6.1 7) + 1) (τ6.2.1 4) := q4_3
    have VA : J_va (τ6.1 8) 1000 (τ6.2.1 18) (τ6.2.1 20) := q4_7
    have SC : J_sc (τ6.1 7) (τ6.1 9) (τ6.2.1 13) (τ6.2.1 14) (τ6.2.1 15) (τ6.2.1 16) (τ6.2.1 22) (τ6.2.1 19) := q4_9
    have MK : J_mk (τ6.1 11) (τ6.1 8) (τ6.1 9) (τ6.1 10) (τ6.2.1 25) := q4_8
    have FF : J_ff (τ6.1 5) (τ6.1 7) (τ6.2.1 9) (τ6.2.1 13) (τ6.2.1 14) (τ6.2.1 15) := q4_10
    have MT : ∀ s : Int, τ6.2.1 26 s ≤ (τ6.1 12) := q4_11
    have VS : J_vs (τ6.1 8) (τ6.1 5) (τ6.2.1 20) := q4_5
    have TX : J_vs (τ6.1 6) (τ6.1 5) (τ6.2.1 15) := q4_6
    have RKS : J_rks (τ6.1 5) (τ6.1 4) (τ6.2.1 10) (τ6.2.1 11) := q4_4
    have CJ : J_all (τ6.1 7) (τ6.1 6) (τ6.1 13) (τ6.1 14) (τ6.1 15) (τ6.2.1 13) (τ6.2.1 14) (τ6.2.1 15) (τ6.2.1 16) (τ6.2.1 10) (τ6.2.1 27) (τ6.2.1 28) (τ6.2.1 29) (τ6.2.1 30) (τ6.2.1 31) (τ6.2.1 32) (τ6.2.1 33) (τ6.2.1 34) (τ6.2.1 35) (τ6.2.1 36) (τ6.2.1 37) := q4_12
    have BP : J_bp (τ6.2.1 44) (τ6.2.1 45) := q4_13
    have CH : j_eq (σ.2.1 36 (σ.1 15)) (σ.2.1 37) (τ6.2.1 37) := by rw [show (j_eq (σ.2.1 36 (σ.1 15)) (σ.2.1 37) (τ6.2.1 37)) = (j_eq (σ.2.1 36 (σ.1 15)) (σ.2.1 37) (σ.2.1 37)) from by rw [g37_τ6]]; exact CH
    have RS : J_rs (τ6.1 35) (τ6.1 7) (τ6.1 6) (τ6.1 36) (τ6.1 37) (τ6.1 5) (τ6.1 8) (τ6.2.1 14) := by rw [show (J_rs (τ6.1 35) (τ6.1 7) (τ6.1 6) (τ6.1 36) (τ6.1 37) (τ6.1 5) (τ6.1 8) (τ6.2.1 14)) = (J_rs (σ.1 35) (σ.1 7) (σ.1 6) (σ.1 36) (σ.1 37) (σ.1 5) (σ.1 8) (σ.2.1 14)) from by rw [w5_τ6, w6_τ6, w7_τ6, w8_τ6, w35_τ6, w36_τ6, w37_τ6, g14_τ6]]; exact RS
    have A2 : ∀ j, 0 ≤ τ6.2.1 2 j ∧ τ6.2.1 2 j ≤ 65535 := fun j => hT.2 2 j
    have A3 : ∀ j, 0 ≤ τ6.2.1 3 j ∧ τ6.2.1 3 j ≤ 30000 := fun j => hT.2 3 j
    have A4 : ∀ j, (-1000) ≤ τ6.2.1 4 j ∧ τ6.2.1 4 j ≤ 1499 := fun j => hT.2 4 j
    have A5 : ∀ j, 0 ≤ τ6.2.1 5 j ∧ τ6.2.1 5 j ≤ 2500 := fun j => hT.2 5 j
    have A6 : ∀ j, 0 ≤ τ6.2.1 6 j ∧ τ6.2.1 6 j ≤ 2500 := fun j => hT.2 6 j
    have A8 : ∀ j, 0 ≤ τ6.2.1 8 j ∧ τ6.2.1 8 j ≤ 1 := fun j => hT.2 8 j
    have A9 : ∀ j, (-1) ≤ τ6.2.1 9 j ∧ τ6.2.1 9 j ≤ 1499 := fun j => hT.2 9 j
    have A10 : ∀ j, (-1) ≤ τ6.2.1 10 j ∧ τ6.2.1 10 j ≤ 99 := fun j => hT.2 10 j
    have A11 : ∀ j, 0 ≤ τ6.2.1 11 j ∧ τ6.2.1 11 j ≤ 999 := fun j => hT.2 11 j
    have A13 : ∀ j, 0 ≤ τ6.2.1 13 j ∧ τ6.2.1 13 j ≤ 4 := fun j => hT.2 13 j
    have A14 : ∀ j, 0 ≤ τ6.2.1 14 j ∧ τ6.2.1 14 j ≤ 30000 := fun j => hT.2 14 j
    have A15 : ∀ j, 0 ≤ τ6.2.1 15 j ∧ τ6.2.1 15 j ≤ 999 := fun j => hT.2 15 j
    have A16 : ∀ j, (-1) ≤ τ6.2.1 16 j ∧ τ6.2.1 16 j ≤ 1499 := fun j => hT.2 16 j
    have A18 : ∀ j, 0 ≤ τ6.2.1 18 j ∧ τ6.2.1 18 j ≤ 1 := fun j => hT.2 18 j
    have A19 : ∀ j, (-1) ≤ τ6.2.1 19 j ∧ τ6.2.1 19 j ≤ 1499 := fun j => hT.2 19 j
    have A20 : ∀ j, 0 ≤ τ6.2.1 20 j ∧ τ6.2.1 20 j ≤ 999 := fun j => hT.2 20 j
    have A22 : ∀ j, 0 ≤ τ6.2.1 22 j ∧ τ6.2.1 22 j ≤ 1499 := fun j => hT.2 22 j
    have A23 : ∀ j, 0 ≤ τ6.2.1 23 j ∧ τ6.2.1 23 j ≤ 999 := fun j => hT.2 23 j
    have A24 : ∀ j, 0 ≤ τ6.2.1 24 j ∧ τ6.2.1 24 j ≤ 999 := fun j => hT.2 24 j
    have A26 : ∀ j, (-2147483648) ≤ τ6.2.1 26 j ∧ τ6.2.1 26 j ≤ 2147483647 := fun j => hT.2 26 j
    have A27 : ∀ j, 0 ≤ τ6.2.1 27 j ∧ τ6.2.1 27 j ≤ 90000 := fun j => hT.2 27 j
    have A28 : ∀ j, 0 ≤ τ6.2.1 28 j ∧ τ6.2.1 28 j ≤ 60 := fun j => hT.2 28 j
    have A29 : ∀ j, 0 ≤ τ6.2.1 29 j ∧ τ6.2.1 29 j ≤ 1499 := fun j => hT.2 29 j
    have A30 : ∀ j, 0 ≤ τ6.2.1 30 j ∧ τ6.2.1 30 j ≤ 20000 := fun j => hT.2 30 j
    have A31 : ∀ j, 0 ≤ τ6.2.1 31 j ∧ τ6.2.1 31 j ≤ 20000 := fun j => hT.2 31 j
    have A32 : ∀ j, 0 ≤ τ6.2.1 32 j ∧ τ6.2.1 32 j ≤ 999999 := fun j => hT.2 32 j
    have A33 : ∀ j, 0 ≤ τ6.2.1 33 j ∧ τ6.2.1 33 j ≤ 20000 := fun j => hT.2 33 j
    have A34 : ∀ j, 0 ≤ τ6.2.1 34 j ∧ τ6.2.1 34 j ≤ 20000 := fun j => hT.2 34 j
    have A35 : ∀ j, 0 ≤ τ6.2.1 35 j ∧ τ6.2.1 35 j ≤ 1499 := fun j => hT.2 35 j
    have A36 : ∀ j, 0 ≤ τ6.2.1 36 j ∧ τ6.2.1 36 j ≤ 20000 := fun j => hT.2 36 j
    have A37 : ∀ j, 0 ≤ τ6.2.1 37 j ∧ τ6.2.1 37 j ≤ 19999 := fun j => hT.2 37 j
    have A44 : ∀ j, 0 ≤ τ6.2.1 44 j ∧ τ6.2.1 44 j ≤ 42000 := fun j => hT.2 44 j
    have A45 : ∀ j, 0 ≤ τ6.2.1 45 j ∧ τ6.2.1 45 j ≤ 1000 := fun j => hT.2 45 j
    have A49 : ∀ j, (-300) ≤ τ6.2.1 49 j ∧ τ6.2.1 49 j ≤ 67035 := fun j => hT.2 49 j
    have A51 : ∀ j, 0 ≤ τ6.2.1 51 j ∧ τ6.2.1 51 j ≤ 1499 := fun j => hT.2 51 j
    have A54 : ∀ j, 0 ≤ τ6.2.1 54 j ∧ τ6.2.1 54 j ≤ 999 := fun j => hT.2 54 j
    have v3 : 0 ≤ τ6.1 3 ∧ τ6.1 3 ≤ 2500 := hT.1 3
    have v4 : 0 ≤ τ6.1 4 ∧ τ6.1 4 ≤ 100 := hT.1 4
    have v5 : 0 ≤ τ6.1 5 ∧ τ6.1 5 ≤ 1000 := hT.1 5
    have v6 : 0 ≤ τ6.1 6 ∧ τ6.1 6 ≤ 30000 := hT.1 6
    have v7 : 0 ≤ τ6.1 7 ∧ τ6.1 7 ≤ 1500 := hT.1 7
    have v8 : 0 ≤ τ6.1 8 ∧ τ6.1 8 ≤ 1000 := hT.1 8
    have v9 : 0 ≤ τ6.1 9 ∧ τ6.1 9 ≤ 1500 := hT.1 9
    have v10 : 0 ≤ τ6.1 10 ∧ τ6.1 10 ≤ 1000 := hT.1 10
    have v11 : 0 ≤ τ6.1 11 ∧ τ6.1 11 ≤ 50 := hT.1 11
    have v12 : (-2147483648) ≤ τ6.1 12 ∧ τ6.1 12 ≤ 2147483647 := hT.1 12
    have v13 : 0 ≤ τ6.1 13 ∧ τ6.1 13 ≤ 90000 := hT.1 13
    have v14 : 0 ≤ τ6.1 14 ∧ τ6.1 14 ≤ 20000 := hT.1 14
    have v15 : 0 ≤ τ6.1 15 ∧ τ6.1 15 ≤ 20000 := hT.1 15
    have v16 : 0 ≤ τ6.1 16 ∧ τ6.1 16 ≤ 20000 := hT.1 16
    have v21 : 0 ≤ τ6.1 21 ∧ τ6.1 21 ≤ 20000 := hT.1 21
    have v22 : 0 ≤ τ6.1 22 ∧ τ6.1 22 ≤ 300 := hT.1 22
    have v23 : 0 ≤ τ6.1 23 ∧ τ6.1 23 ≤ 300 := hT.1 23
    have v24 : 0 ≤ τ6.1 24 ∧ τ6.1 24 ≤ 1499 := hT.1 24
    have v25 : 0 ≤ τ6.1 25 ∧ τ6.1 25 ≤ 3 := hT.1 25
    have v26 : 0 ≤ τ6.1 26 ∧ τ6.1 26 ≤ 5000010 := hT.1 26
    have v27 : 0 ≤ τ6.1 27 ∧ τ6.1 27 ≤ 1 := hT.1 27
    have v35 : 0 ≤ τ6.1 35 ∧ τ6.1 35 ≤ 7 := hT.1 35
    have v36 : 0 ≤ τ6.1 36 ∧ τ6.1 36 ≤ 1001 := hT.1 36
    have v37 : 0 ≤ τ6.1 37 ∧ τ6.1 37 ≤ 4 := hT.1 37
    have a14_7 : 0 ≤ τ6.2.1 14 (τ6.1 7) ∧ τ6.2.1 14 (τ6.1 7) ≤ 30000 := hT.2 14 _
    have a36_15 : 0 ≤ τ6.2.1 36 (τ6.1 15) ∧ τ6.2.1 36 (τ6.1 15) ≤ 20000 := hT.2 36 _
    have av13 : σ.1 13 ≤ τ6.1 13 := ag.1 13 (by decide)
    have av14 : σ.1 14 ≤ τ6.1 14 := ag.1 14 (by decide)
    exact ⟨hT, (show 0 ≤ x5 ∧ x5 ≤ 19 from by (first | assumption | omega | (simp only [st_s] <;> omega) | fail)), (show J_ht (τ6.1 3) (τ6.2.1 2) (τ6.2.1 3) (τ6.2.1 5) (τ6.2.1 6) from HT), (show J_mn (τ6.1 3) (τ6.1 5) ((τ6.1 7) + 1) (τ6.2.1 4) from MN), (show J_rks (τ6.1 5) (τ6.1 4) (τ6.2.1 10) (τ6.2.1 11) from RKS), (show J_vs (τ6.1 8) (τ6.1 5) (τ6.2.1 20) from VS), (show J_vs (τ6.1 6) (τ6.1 5) (τ6.2.1 15) from TX), (show J_va (τ6.1 8) 1000 (τ6.2.1 18) (τ6.2.1 20) from VA), (show J_mk (τ6.1 11) (τ6.1 8) (τ6.1 9) (τ6.1 10) (τ6.2.1 25) from MK), (show J_sc (τ6.1 7) (τ6.1 9) (τ6.2.1 13) (τ6.2.1 14) (τ6.2.1 15) (τ6.2.1 16) (τ6.2.1 22) (τ6.2.1 19) from SC), (show J_ff (τ6.1 5) (τ6.1 7) (τ6.2.1 9) (τ6.2.1 13) (τ6.2.1 14) (τ6.2.1 15) from FF), (show ∀ s : Int, τ6.2.1 26 s ≤ (τ6.1 12) from MT), (show J_all (τ6.1 7) (τ6.1 6) (τ6.1 13) (τ6.1 14) (τ6.1 15) (τ6.2.1 13) (τ6.2.1 14) (τ6.2.1 15) (τ6.2.1 16) (τ6.2.1 10) (τ6.2.1 27) (τ6.2.1 28) (τ6.2.1 29) (τ6.2.1 30) (τ6.2.1 31) (τ6.2.1 32) (τ6.2.1 33) (τ6.2.1 34) (τ6.2.1 35) (τ6.2.1 36) (τ6.2.1 37) from CJ), (show J_bp (τ6.2.1 44) (τ6.2.1 45) from BP), (show J_nl (τ6.1 3) (τ6.2.1 2) (τ6.2.1 3) (τ6.2.1 4) from NL), (show x5 = 0 → J_rs (τ6.1 35) (τ6.1 7) (τ6.1 6) (τ6.1 36) (τ6.1 37) (τ6.1 5) (τ6.1 8) (τ6.2.1 14) from by (first | (intro z; exfalso; omega) | exact q1_15 | exact q4_15 | exact q7_15 | (intro z; have w := q15_2 z; unfold J_rs; rw [G14, W7]; omega) | (intro z; unfold J_rs; rw [G14, W7]; omega) | (first | (intro z; exfalso; omega) | (intro z; unfold J_rs; omega) | (intro z; unfold J_rs; rw [G14, W7]; omega)) | fail)), (show x5 = 0 → 5 ≤ (τ6.1 35) → 1 ≤ (τ6.1 36) → 0 ≤ τ6.2.1 10 (τ6.2.1 15 (τ6.2.1 14 (τ6.1 7))) from by (first | (intro z; exfalso; omega) | exact q1_16 | exact q4_16 | exact q7_16 | (intro z y y2; exfalso; omega) | (intro z y; have w := q15_2 z; exfalso; omega) | (first | (intro z; exfalso; omega) | (intro z y; exfalso; omega) | exact fun _ => uc | (intro z y y2; exact uc (by omega) (by omega)) | (intro z y y2; exfalso; omega) | (intro z y y2; rw [G10, G14, G15, W7]; exact uc (by omega) (by omega))) | fail)), (show x5 = 0 → (τ6.1 35) = 4 → j_in (τ6.1 36) 1000 (τ6.2.1 54) from by (first | (intro z; exfalso; omega) | exact q1_17 | exact q4_17 | exact q7_17 | (intro z y; rw [show τ17.1 36 = 0 from (q15_2 z).1]; exact j_in0 _ _) | (first | (intro z; exfalso; omega) | (intro z y; exfalso; omega) | exact fun _ => dj) | fail)), (show x5 = 0 → 5 ≤ (τ6.1 35) → J_ip (τ6.1 7) (τ6.1 6) (τ6.1 37) (τ6.2.1 14) (τ6.2.1 15) (τ6.2.1 16) (τ6.2.1 19) from by (first | (intro z; exfalso; omega) | exact q1_18 | exact q4_18 | exact q7_18 | (intro z y; have w := q15_2 z; exfalso; omega) | (intro z y; exact J_ip0 (by rw [W6, G14, W7]; omega)) | (first | (intro z; exfalso; omega) | (intro z y; exfalso; omega) | exact fun _ => ipx | (intro z y; exact ipx (by omega)) | (intro z y; rw [W7, W6, W37, G14, G15, G16, G19]; exact ipx (by omega))) | fail)), (show x5 = 0 → ((τ6.1 35) ≤ 5 → (τ6.1 13) ≤ 60 * (τ6.1 7)) ∧ (τ6.1 13) ≤ 60 * (τ6.1 7) + 60 from by (first | (intro z; exfalso; omega) | exact q1_19 | exact q4_19 | exact q7_19 | (intro z; omega) | fail)), (show x5 = 0 → 6 ≤ (τ6.1 35) → (τ6.1 24) = (τ6.1 7) ∧ J_f (τ6.1 7) (τ6.1 13) (τ6.1 14) (τ6.2.1 13) (τ6.2.1 14) (τ6.2.1 15) (τ6.2.1 16) (τ6.2.1 27) (τ6.2.1 28) (τ6.2.1 29) (τ6.2.1 30) (τ6.2.1 31) (τ6.2.1 32) from by (first | (intro z; exfalso; omega) | exact q1_20 | exact q4_20 | exact q7_20 | (intro z y; have w := q15_2 z; exfalso; omega) | (intro z y; exfalso; omega) | (first | (intro z; exfalso; omega) | (intro z y; exfalso; omega) | exact fun _ => frx | (intro z y; exact frx (by omega)) | (intro z y; have w := frx (by omega); rw [W7, W13, W14, W24, G13, G14, G15, G16, G27, G28, G29, G30, G31, G32]; exact w)) | fail)), (show x5 = 0 → 6 ≤ (τ6.1 35) → J_sp (τ6.1 24) (τ6.1 21) (τ6.1 23) (τ6.1 22) (τ6.2.1 49) (τ6.2.1 51) ∧ ((τ6.1 16) + (τ6.1 21) ≤ 20000) ∧ (¬ (τ6.1 27) = 0 → 1 ≤ (τ6.1 21) ∧ 0 ≤ τ6.2.1 49 ((τ6.1 21) - 1) ∧ τ6.2.1 49 ((τ6.1 21) - 1) < 65536) ∧ ((τ6.1 26) ≤ 1000000) ∧ ((τ6.1 25) ≤ 2 → (τ6.1 27) = 0) from by (first | (intro z; exfalso; omega) | exact q1_21 | exact q4_21 | exact q7_21 | (intro z y; have w := q15_2 z; exfalso; omega) | (intro z y; exfalso; omega) | (first | (intro z; exfalso; omega) | (intro z y; exfalso; omega) | exact fun _ => spx | (intro z y; exact spx (by omega))) | fail)), (show x5 = 0 → (τ6.1 15) ≤ (τ6.1 16) ∧ τ6.2.1 36 (τ6.1 15) ≤ (τ6.1 16) from by (first | (intro z; exfalso; omega) | exact q1_22 | exact q4_22 | exact q7_22 | (intro z; first | exact sux | omega) | fail)), (show x5 = 0 → (τ6.1 9) ≤ (τ6.1 7) from by (first | (intro z; exfalso; omega) | exact q1_23 | exact q4_23 | exact q7_23 | (intro z; omega) | fail)), (show j_rr ((σ.1 5)) (σ.2.1 10) (τ6.2.1 10) from by (first | exact j_rr0 _ _ | exact q1_24 | exact q4_24 | exact q7_24 | (rw [G10]; exact j_rr0 _ _) | fail)), (show j_eq (σ.2.1 36 (σ.1 15)) (σ.2.1 37) (τ6.2.1 37) from CH), (show (τ6.1 12) ≤ (σ.1 12) + 1 from by (first | assumption | omega | (simp only [st_s] <;> omega) | fail)), (show c_Y σ τ6 from by (first | exact c_Y0 _ | exact c_Y_g W4 G11 G20 G22 G25 | exact q1_27 | exact q4_27 | exact q7_27 | exact c_Y_g (by omega) (by rw [g11_τ4]) (by rw [g20_τ4]) (by rw [g22_τ4]) (by rw [g25_τ4]) | exact c_Y_g (by omega) (by rw [g11_τ13]) (by rw [g20_τ13]) (by rw [g22_τ13]) (by rw [g25_τ13]) | exact c_Y_g (by omega) (by rw [g11_τ17]) (by rw [g20_τ17]) (by rw [g22_τ17]) (by rw [g25_τ17]) | fail)), ag⟩
  ·
    refine ⟨_, K_X7_closeScope hT (show J_ht (σ.1 3) (σ.2.1 2) (σ.2.1 3) (σ.2.1 5) (σ.2.1 6) from HT) (show J_mn (σ.1 3) (σ.1 5) ((σ.1 7) + 1) (σ.2.1 4) from MN) (show J_rks (σ.1 5) (σ.1 4) (σ.2.1 10) (σ.2.1 11) from RKS) (show J_vs (σ.1 8) (σ.1 5) (σ.2.1 20) from VS) (show J_vs (σ.1 6) (σ.1 5) (σ.2.1 15) from TX) (show J_va (σ.1 8) 1000 (σ.2.1 18) (σ.2.1 20) from VA) (show J_mk (σ.1 11) (σ.1 8) (σ.1 9) (σ.1 10) (σ.2.1 25) from MK) (show J_sc (σ.1 7) (σ.1 9) (σ.2.1 13) (σ.2.1 14) (σ.2.1 15) (σ.2.1 16) (σ.2.1 22) (σ.2.1 19) from SC) (show J_ff (σ.1 5) (σ.1 7) (σ.2.1 9) (σ.2.1 13) (σ.2.1 14) (σ.2.1 15) from FF) (show ∀ s : Int, σ.2.1 26 s ≤ (σ.1 12) from MT) (show J_all (σ.1 7) (σ.1 6) (σ.1 13) (σ.1 14) (σ.1 15) (σ.2.1 13) (σ.2.1 14) (σ.2.1 15) (σ.2.1 16) (σ.2.1 10) (σ.2.1 27) (σ.2.1 28) (σ.2.1 29) (σ.2.1 30) (σ.2.1 31) (σ.2.1 32) (σ.2.1 33) (σ.2.1 34) (σ.2.1 35) (σ.2.1 36) (σ.2.1 37) from CJ) (show J_bp (σ.2.1 44) (σ.2.1 45) from BP) (show J_nl (σ.1 3) (σ.2.1 2) (σ.2.1 3) (σ.2.1 4) from NL) (show J_rs (σ.1 35) (σ.1 7) (σ.1 6) (σ.1 36) (σ.1 37) (σ.1 5) (σ.1 8) (σ.2.1 14) from RS) (show 5 ≤ (σ.1 35) → 1 ≤ (σ.1 36) → 0 ≤ σ.2.1 10 (σ.2.1 15 (σ.2.1 14 (σ.1 7))) from by (first | assumption | omega | (simp only [st_s] <;> omega) | fail)) (show (σ.1 35) = 4 → j_in (σ.1 36) 1000 (σ.2.1 54) from by (first | assumption | omega | (simp only [st_s] <;> omega) | fail)) (show 5 ≤ (σ.1 35) → J_ip (σ.1 7) (σ.1 6) (σ.1 37) (σ.2.1 14) (σ.2.1 15) (σ.2.1 16) (σ.2.1 19) from by (first | assumption | omega | (simp only [st_s] <;> omega) | fail)) (show ((σ.1 35) ≤ 5 → (σ.1 13) ≤ 60 * (σ.1 7)) ∧ (σ.1 13) ≤ 60 * (σ.1 7) + 60 from by (first | assumption | omega | (simp only [st_s] <;> omega) | fail)) (show 6 ≤ (σ.1 35) → (σ.1 24) = (σ.1 7) ∧ J_f (σ.1 7) (σ.1 13) (σ.1 14) (σ.2.1 13) (σ.2.1 14) (σ.2.1 15) (σ.2.1 16) (σ.2.1 27) (σ.2.1 28) (σ.2.1 29) (σ.2.1 30) (σ.2.1 31) (σ.2.1 32) from by (first | assumption | omega | (simp only [st_s] <;> omega) | fail)) (show 6 ≤ (σ.1 35) → J_sp (σ.1 24) (σ.1 21) (σ.1 23) (σ.1 22) (σ.2.1 49) (σ.2.1 51) ∧ ((σ.1 16) + (σ.1 21) ≤ 20000) ∧ (¬ (σ.1 27) = 0 → 1 ≤ (σ.1 21) ∧ 0 ≤ σ.2.1 49 ((σ.1 21) - 1) ∧ σ.2.1 49 ((σ.1 21) - 1) < 65536) ∧ ((σ.1 26) ≤ 1000000) ∧ ((σ.1 25) ≤ 2 → (σ.1 27) = 0) from by (first | assumption | omega | (simp only [st_s] <;> omega) | fail)) (show (σ.1 15) ≤ (σ.1 16) ∧ σ.2.1 36 (σ.1 15) ≤ (σ.1 16) from by (first | assumption | omega | (simp only [st_s] <;> omega) | fail)) (show (σ.1 9) ≤ (σ.1 7) from by (first | assumption | omega | (simp only [st_s] <;> omega) | fail)), ?_⟩
    intro x8 τ9 r_x8 hn_τ9 hf_τ9 hq
    obtain ⟨hT, q7_1, q7_2, q7_3, q7_4, q7_5, q7_6, q7_7, q7_8, q7_9, q7_10, q7_11, q7_12, q7_13, q7_14, q7_15, q7_16, q7_17, q7_18, q7_19, q7_20, q7_21, q7_22, q7_23, q7_24, q7_25, q7_26, q7_27, q7_28⟩ := hq
    replace q7_1 : 0 ≤ x8 ∧ x8 ≤ 19 := q7_1
    replace q7_2 : J_ht (τ9.1 3) (τ9.2.1 2) (τ9.2.1 3) (τ9.2.1 5) (τ9.2.1 6) := q7_2
    replace q7_3 : J_mn (τ9.1 3) (τ9.1 5) ((τ9.1 7) + 1) (τ9.2.1 4) := q7_3
    replace q7_4 : J_rks (τ9.1 5) (τ9.1 4) (τ9.2.1 10) (τ9.2.1 11) := q7_4
    replace q7_5 : J_vs (τ9.1 8) (τ9.1 5) (τ9.2.1 20) := q7_5
    replace q7_6 : J_vs (τ9.1 6) (τ9.1 5) (τ9.2.1 15) := q7_6
    replace q7_7 : J_va (τ9.1 8) 1000 (τ9.2.1 18) (τ9.2.1 20) := q7_7
    replace q7_8 : J_mk (τ9.1 11) (τ9.1 8) (τ9.1 9) (τ9.1 10) (τ9.2.1 25) := q7_8
    replace q7_9 : J_sc (τ9.1 7) (τ9.1 9) (τ9.2.1 13) (τ9.2.1 14) (τ9.2.1 15) (τ9.2.1 16) (τ9.2.1 22) (τ9.2.1 19) := q7_9
    replace q7_10 : J_ff (τ9.1 5) (τ9.1 7) (τ9.2.1 9) (τ9.2.1 13) (τ9.2.1 14) (τ9.2.1 15) := q7_10
    replace q7_11 : ∀ s : Int, τ9.2.1 26 s ≤ (τ9.1 12) := q7_11
    replace q7_12 : J_all (τ9.1 7) (τ9.1 6) (τ9.1 13) (τ9.1 14) (τ9.1 15) (τ9.2.1 13) (τ9.2.1 14) (τ9.2.1 15) (τ9.2.1 16) (τ9.2.1 10) (τ9.2.1 27) (τ9.2.1 28) (τ9.2.1 29) (τ9.2.1 30) (τ9.2.1 31) (τ9.2.1 32) (τ9.2.1 33) (τ9.2.1 34) (τ9.2.1 35) (τ9.2.1 36) (τ9.2.1 37) := q7_12
    replace q7_13 : J_bp (τ9.2.1 44) (τ9.2.1 45) := q7_13
    replace q7_14 : J_nl (τ9.1 3) (τ9.2.1 2) (τ9.2.1 3) (τ9.2.1 4) := q7_14
    replace q7_15 : x8 = 0 → J_rs (τ9.1 35) (τ9.1 7) (τ9.1 6) (τ9.1 36) (τ9.1 37) (τ9.1 5) (τ9.1 8) (τ9.2.1 14) := q7_15
    replace q7_16 : x8 = 0 → 5 ≤ (τ9.1 35) → 1 ≤ (τ9.1 36) → 0 ≤ τ9.2.1 10 (τ9.2.1 15 (τ9.2.1 14 (τ9.1 7))) := q7_16
    replace q7_17 : x8 = 0 → (τ9.1 35) = 4 → j_in (τ9.1 36) 1000 (τ9.2.1 54) := q7_17
    replace q7_18 : x8 = 0 → 5 ≤ (τ9.1 35) → J_ip (τ9.1 7) (τ9.1 6) (τ9.1 37) (τ9.2.1 14) (τ9.2.1 15) (τ9.2.1 16) (τ9.2.1 19) := q7_18
    replace q7_19 : x8 = 0 → ((τ9.1 35) ≤ 5 → (τ9.1 13) ≤ 60 * (τ9.1 7)) ∧ (τ9.1 13) ≤ 60 * (τ9.1 7) + 60 := q7_19
    replace q7_20 : x8 = 0 → 6 ≤ (τ9.1 35) → (τ9.1 24) = (τ9.1 7) ∧ J_f (τ9.1 7) (τ9.1 13) (τ9.1 14) (τ9.2.1 13) (τ9.2.1 14) (τ9.2.1 15) (τ9.2.1 16) (τ9.2.1 27) (τ9.2.1 28) (τ9.2.1 29) (τ9.2.1 30) (τ9.2.1 31) (τ9.2.1 32) := q7_20
    replace q7_21 : x8 = 0 → 6 ≤ (τ9.1 35) → J_sp (τ9.1 24) (τ9.1 21) (τ9.1 23) (τ9.1 22) (τ9.2.1 49) (τ9.2.1 51) ∧ ((τ9.1 16) + (τ9.1 21) ≤ 20000) ∧ (¬ (τ9.1 27) = 0 → 1 ≤ (τ9.1 21) ∧ 0 ≤ τ9.2.1 49 ((τ9.1 21) - 1) ∧ τ9.2.1 49 ((τ9.1 21) - 1) < 65536) ∧ ((τ9.1 26) ≤ 1000000) ∧ ((τ9.1 25) ≤ 2 → (τ9.1 27) = 0) := q7_21
    replace q7_22 : x8 = 0 → (τ9.1 15) ≤ (τ9.1 16) ∧ τ9.2.1 36 (τ9.1 15) ≤ (τ9.1 16) := q7_22
    replace q7_23 : x8 = 0 → (τ9.1 9) ≤ (τ9.1 7) := q7_23
    replace q7_24 : j_rr ((σ.1 5)) (σ.2.1 10) (τ9.2.1 10) := q7_24
    replace q7_25 : j_eq (σ.2.1 36 (σ.1 15)) (σ.2.1 37) (τ9.2.1 37) := q7_25
    replace q7_26 : (τ9.1 12) ≤ (σ.1 12) + 1 := q7_26
    replace q7_27 : c_Y σ τ9 := q7_27
    replace q7_28 : c_ag σ τ9 := q7_28
    replace ag : c_ag σ τ9 := ag_t ag q7_28 rfl
    have w3_τ9 : τ9.1 3 = σ.1 3 := hf_τ9.1 3 (by decide)
    have w4_τ9 : τ9.1 4 = σ.1 4 := hf_τ9.1 4 (by decide)
    have w5_τ9 : τ9.1 5 = σ.1 5 := hf_τ9.1 5 (by decide)
    have w6_τ9 : τ9.1 6 = σ.1 6 := hf_τ9.1 6 (by decide)
    have w7_τ9 : τ9.1 7 = σ.1 7 := hf_τ9.1 7 (by decide)
    have w12_τ9 : τ9.1 12 = σ.1 12 := hf_τ9.1 12 (by decide)
    have w13_τ9 : τ9.1 13 = σ.1 13 := hf_τ9.1 13 (by decide)
    have w14_τ9 : τ9.1 14 = σ.1 14 := hf_τ9.1 14 (by decide)
    have w15_τ9 : τ9.1 15 = σ.1 15 := hf_τ9.1 15 (by decide)
    have w16_τ9 : τ9.1 16 = σ.1 16 := hf_τ9.1 16 (by decide)
    have w21_τ9 : τ9.1 21 = σ.1 21 := hf_τ9.1 21 (by decide)
    have w22_τ9 : τ9.1 22 = σ.1 22 := hf_τ9.1 22 (by decide)
    have w23_τ9 : τ9.1 23 = σ.1 23 := hf_τ9.1 23 (by decide)
    have w24_τ9 : τ9.1 24 = σ.1 24 := hf_τ9.1 24 (by decide)
    have w25_τ9 : τ9.1 25 = σ.1 25 := hf_τ9.1 25 (by decide)
    have w26_τ9 : τ9.1 26 = σ.1 26 := hf_τ9.1 26 (by decide)
    have w27_τ9 : τ9.1 27 = σ.1 27 := hf_τ9.1 27 (by decide)
    have w35_τ9 : τ9.1 35 = σ.1 35 := hf_τ9.1 35 (by decide)
    have w36_τ9 : τ9.1 36 = σ.1 36 := hf_τ9.1 36 (by decide)
    have w37_τ9 : τ9.1 37 = σ.1 37 := hf_τ9.1 37 (by decide)
    have g2_τ9 : τ9.2.1 2 = σ.2.1 2 := hf_τ9.2.1 2 (by decide)
    have g3_τ9 : τ9.2.1 3 = σ.2.1 3 := hf_τ9.2.1 3 (by decide)
    have g4_τ9 : τ9.2.1 4 = σ.2.1 4 := hf_τ9.2.1 4 (by decide)
    have g5_τ9 : τ9.2.1 5 = σ.2.1 5 := hf_τ9.2.1 5 (by decide)
    have g6_τ9 : τ9.2.1 6 = σ.2.1 6 := hf_τ9.2.1 6 (by decide)
    have g8_τ9 : τ9.2.1 8 = σ.2.1 8 := hf_τ9.2.1 8 (by decide)
    have g9_τ9 : τ9.2.1 9 = σ.2.1 9 := hf_τ9.2.1 9 (by decide)
    have g10_τ9 : τ9.2.1 10 = σ.2.1 10 := hf_τ9.2.1 10 (by decide)
    have g11_τ9 : τ9.2.1 11 = σ.2.1 11 := hf_τ9.2.1 11 (by decide)
    have g13_τ9 : τ9.2.1 13 = σ.2.1 13 := hf_τ9.2.1 13 (by decide)
    have g14_τ9 : τ9.2.1 14 = σ.2.1 14 := hf_τ9.2.1 14 (by decide)
    have g15_τ9 : τ9.2.1 15 = σ.2.1 15 := hf_τ9.2.1 15 (by decide)
    have g16_τ9 : τ9.2.1 16 = σ.2.1 16 := hf_τ9.2.1 16 (by decide)
    have g20_τ9 : τ9.2.1 20 = σ.2.1 20 := hf_τ9.2.1 20 (by decide)
    have g22_τ9 : τ9.2.1 22 = σ.2.1 22 := hf_τ9.2.1 22 (by decide)
    have g23_τ9 : τ9.2.1 23 = σ.2.1 23 := hf_τ9.2.1 23 (by decide)
    have g24_τ9 : τ9.2.1 24 = σ.2.1 24 := hf_τ9.2.1 24 (by decide)
    have g25_τ9 : τ9.2.1 25 = σ.2.1 25 := hf_τ9.2.1 25 (by decide)
    have g26_τ9 : τ9.2.1 26 = σ.2.1 26 := hf_τ9.2.1 26 (by decide)
    have g27_τ9 : τ9.2.1 27 = σ.2.1 27 := hf_τ9.2.1 27 (by decide)
    have g28_τ9 : τ9.2.1 28 = σ.2.1 28 := hf_τ9.2.1 28 (by decide)
    have g29_τ9 : τ9.2.1 29 = σ.2.1 29 := hf_τ9.2.1 29 (by decide)
    have g30_τ9 : τ9.2.1 30 = σ.2.1 30 := hf_τ9.2.1 30 (by decide)
    have g31_τ9 : τ9.2.1 31 = σ.2.1 31 := hf_τ9.2.1 31 (by decide)
    have g32_τ9 : τ9.2.1 32 = σ.2.1 32 := hf_τ9.2.1 32 (by decide)
    have g33_τ9 : τ9.2.1 33 = σ.2.1 33 := hf_τ9.2.1 33 (by decide)
    have g34_τ9 : τ9.2.1 34 = σ.2.1 34 := hf_τ9.2.1 34 (by decide)
    have g35_τ9 : τ9.2.1 35 = σ.2.1 35 := hf_τ9.2.1 35 (by decide)
    have g36_τ9 : τ9.2.1 36 = σ.2.1 36 := hf_τ9.2.1 36 (by decide)
    have g37_τ9 : τ9.2.1 37 = σ.2.1 37 := hf_τ9.2.1 37 (by decide)
    have g44_τ9 : τ9.2.1 44 = σ.2.1 44 := hf_τ9.2.1 44 (by decide)
    have g45_τ9 : τ9.2.1 45 = σ.2.1 45 := hf_τ9.2.1 45 (by decide)
    have g49_τ9 : τ9.2.1 49 = σ.2.1 49 := hf_τ9.2.1 49 (by decide)
    have g51_τ9 : τ9.2.1 51 = σ.2.1 51 := hf_τ9.2.1 51 (by decide)
    have g54_τ9 : τ9.2.1 54 = σ.2.1 54 := hf_τ9.2.1 54 (by decide)
    have W3 : τ9.1 3 = σ.1 3 := by omega
    have W4 : τ9.1 4 = σ.1 4 := by omega
    have W5 : τ9.1 5 = σ.1 5 := by omega
    have W6 : τ9.1 6 = σ.1 6 := by omega
    have W7 : τ9.1 7 = σ.1 7 := by omega
    have W15 : τ9.1 15 = σ.1 15 := by omega
    have W16 : τ9.1 16 = σ.1 16 := by omega
    have G2 : τ9.2.1 2 = σ.2.1 2 := (g2_τ9).trans G2
    have G3 : τ9.2.1 3 = σ.2.1 3 := (g3_τ9).trans G3
    have G4 : τ9.2.1 4 = σ.2.1 4 := (g4_τ9).trans G4
    have G5 : τ9.2.1 5 = σ.2.1 5 := (g5_τ9).trans G5
    have G6 : τ9.2.1 6 = σ.2.1 6 := (g6_τ9).trans G6
    have G8 : τ9.2.1 8 = σ.2.1 8 := (g8_τ9).trans G8
    have G9 : τ9.2.1 9 = σ.2.1 9 := (g9_τ9).trans G9
    have G10 : τ9.2.1 10 = σ.2.1 10 := (g10_τ9).trans G10
    have G11 : τ9.2.1 11 = σ.2.1 11 := (g11_τ9).trans G11
    have G13 : τ9.2.1 13 = σ.2.1 13 := (g13_τ9).trans G13
    have G14 : τ9.2.1 14 = σ.2.1 14 := (g14_τ9).trans G14
    have G15 : τ9.2.1 15 = σ.2.1 15 := (g15_τ9).trans G15
    have G16 : τ9.2.1 16 = σ.2.1 16 := (g16_τ9).trans G16
    have G20 : τ9.2.1 20 = σ.2.1 20 := (g20_τ9).trans G20
    have G22 : τ9.2.1 22 = σ.2.1 22 := (g22_τ9).trans G22
    have G23 : τ9.2.1 23 = σ.2.1 23 := (g23_τ9).trans G23
    have G24 : τ9.2.1 24 = σ.2.1 24 := (g24_τ9).trans G24
    have G33 : τ9.2.1 33 = σ.2.1 33 := (g33_τ9).trans G33
    have G34 : τ9.2.1 34 = σ.2.1 34 := (g34_τ9).trans G34
    have G35 : τ9.2.1 35 = σ.2.1 35 := (g35_τ9).trans G35
    have G36 : τ9.2.1 36 = σ.2.1 36 := (g36_τ9).trans G36
    have G37 : τ9.2.1 37 = σ.2.1 37 := (g37_τ9).trans G37
    have G44 : τ9.2.1 44 = σ.2.1 44 := (g44_τ9).trans G44
    have G45 : τ9.2.1 45 = σ.2.1 45 := (g45_τ9).trans G45
    have G49 : τ9.2.1 49 = σ.2.1 49 := (g49_τ9).trans G49
    have G51 : τ9.2.1 51 = σ.2.1 51 := (g51_τ9).trans G51
    have G54 : τ9.2.1 54 = σ.2.1 54 := (g54_τ9).trans G54
    have y14_7_τ9 : τ9.2.1 14 (τ9.1 7) = (σ.2.1 14) (σ.1 7) := by rw [g14_τ9, w7_τ9]
    have y36_15_τ9 : τ9.2.1 36 (τ9.1 15) = (σ.2.1 36) (σ.1 15) := by rw [g36_τ9, w15_τ9]
    have HT : J_ht (τ9.1 3) (τ9.2.1 2) (τ9.2.1 3) (τ9.2.1 5) (τ9.2.1 6) := q7_2
    have NL : J_nl (τ9.1 3) (τ9.2.1 2) (τ9.2.1 3) (τ9.2.1 4) := q7_14
    have MN : J_mn (τ9.1 3) (τ9.1 5) ((τ9.1 7) + 1) (τ9.2.1 4) := q7_3
    have VA : J_va (τ9.1 8) 1000 (τ9.2.1 18) (τ9.2.1 20) := q7_7
    have SC : J_sc (τ9.1 7) (τ9.1 9) (τ9.2.1 13) (τ9.2.1 14) (τ9.2.1 15) (τ9.2.1 16) (τ9.2.1 22) (τ9.2.1 19) := q7_9
    have MK : J_mk (τ9.1 11) (τ9.1 8) (τ9.1 9) (τ9.1 10) (τ9.2.1 25) := q7_8
    have FF : J_ff (τ9.1 5) (τ9.1 7) (τ9.2.1 9) (τ9.2.1 13) (τ9.2.1 14) (τ9.2.1 15) := q7_10
    have MT : ∀ s : Int, τ9.2.1 26 s ≤ (τ9.1 12) := q7_11
    have VS : J_vs (τ9.1 8) (τ9.1 5) (τ9.2.1 20) := q7_5
    have TX : J_vs (τ9.1 6) (τ9.1 5) (τ9.2.1 15) := q7_6
    have RKS : J_rks (τ9.1 5) (τ9.1 4) (τ9.2.1 10) (τ9.2.1 11) := q7_4
    have CJ : J_all (τ9.1 7) (τ9.1 6) (τ9.1 13) (τ9.1 14) (τ9.1 15) (τ9.2.1 13) (τ9.2.1 14) (τ9.2.1 15) (τ9.2.1 16) (τ9.2.1 10) (τ9.2.1 27) (τ9.2.1 28) (τ9.2.1 29) (τ9.2.1 30) (τ9.2.1 31) (τ9.2.1 32) (τ9.2.1 33) (τ9.2.1 34) (τ9.2.1 35) (τ9.2.1 36) (τ9.2.1 37) := q7_12
    have BP : J_bp (τ9.2.1 44) (τ9.2.1 45) := q7_13
    have CH : j_eq (σ.2.1 36 (σ.1 15)) (σ.2.1 37) (τ9.2.1 37) := by rw [show (j_eq (σ.2.1 36 (σ.1 15)) (σ.2.1 37) (τ9.2.1 37)) = (j_eq (σ.2.1 36 (σ.1 15)) (σ.2.1 37) (σ.2.1 37)) from by rw [g37_τ9]]; exact CH
    have A2 : ∀ j, 0 ≤ τ9.2.1 2 j ∧ τ9.2.1 2 j ≤ 65535 := fun j => hT.2 2 j
    have A3 : ∀ j, 0 ≤ τ9.2.1 3 j ∧ τ9.2.1 3 j ≤ 30000 := fun j => hT.2 3 j
    have A4 : ∀ j, (-1000) ≤ τ9.2.1 4 j ∧ τ9.2.1 4 j ≤ 1499 := fun j => hT.2 4 j
    have A5 : ∀ j, 0 ≤ τ9.2.1 5 j ∧ τ9.2.1 5 j ≤ 2500 := fun j => hT.2 5 j
    have A6 : ∀ j, 0 ≤ τ9.2.1 6 j ∧ τ9.2.1 6 j ≤ 2500 := fun j => hT.2 6 j
    have A8 : ∀ j, 0 ≤ τ9.2.1 8 j ∧ τ9.2.1 8 j ≤ 1 := fun j => hT.2 8 j
    have A9 : ∀ j, (-1) ≤ τ9.2.1 9 j ∧ τ9.2.1 9 j ≤ 1499 := fun j => hT.2 9 j
    have A10 : ∀ j, (-1) ≤ τ9.2.1 10 j ∧ τ9.2.1 10 j ≤ 99 := fun j => hT.2 10 j
    have A11 : ∀ j, 0 ≤ τ9.2.1 11 j ∧ τ9.2.1 11 j ≤ 999 := fun j => hT.2 11 j
    have A13 : ∀ j, 0 ≤ τ9.2.1 13 j ∧ τ9.2.1 13 j ≤ 4 := fun j => hT.2 13 j
    have A14 : ∀ j, 0 ≤ τ9.2.1 14 j ∧ τ9.2.1 14 j ≤ 30000 := fun j => hT.2 14 j
    have A15 : ∀ j, 0 ≤ τ9.2.1 15 j ∧ τ9.2.1 15 j ≤ 999 := fun j => hT.2 15 j
    have A16 : ∀ j, (-1) ≤ τ9.2.1 16 j ∧ τ9.2.1 16 j ≤ 1499 := fun j => hT.2 16 j
    have A18 : ∀ j, 0 ≤ τ9.2.1 18 j ∧ τ9.2.1 18 j ≤ 1 := fun j => hT.2 18 j
    have A19 : ∀ j, (-1) ≤ τ9.2.1 19 j ∧ τ9.2.1 19 j ≤ 1499 := fun j => hT.2 19 j
    have A20 : ∀ j, 0 ≤ τ9.2.1 20 j ∧ τ9.2.1 20 j ≤ 999 := fun j => hT.2 20 j
    have A22 : ∀ j, 0 ≤ τ9.2.1 22 j ∧ τ9.2.1 22 j ≤ 1499 := fun j => hT.2 22 j
    have A23 : ∀ j, 0 ≤ τ9.2.1 23 j ∧ τ9.2.1 23 j ≤ 999 := fun j => hT.2 23 j
    have A24 : ∀ j, 0 ≤ τ9.2.1 24 j ∧ τ9.2.1 24 j ≤ 999 := fun j => hT.2 24 j
    have A26 : ∀ j, (-2147483648) ≤ τ9.2.1 26 j ∧ τ9.2.1 26 j ≤ 2147483647 := fun j => hT.2 26 j
    have A27 : ∀ j, 0 ≤ τ9.2.1 27 j ∧ τ9.2.1 27 j ≤ 90000 := fun j => hT.2 27 j
    have A28 : ∀ j, 0 ≤ τ9.2.1 28 j ∧ τ9.2.1 28 j ≤ 60 := fun j => hT.2 28 j
    have A29 : ∀ j, 0 ≤ τ9.2.1 29 j ∧ τ9.2.1 29 j ≤ 1499 := fun j => hT.2 29 j
    have A30 : ∀ j, 0 ≤ τ9.2.1 30 j ∧ τ9.2.1 30 j ≤ 20000 := fun j => hT.2 30 j
    have A31 : ∀ j, 0 ≤ τ9.2.1 31 j ∧ τ9.2.1 31 j ≤ 20000 := fun j => hT.2 31 j
    have A32 : ∀ j, 0 ≤ τ9.2.1 32 j ∧ τ9.2.1 32 j ≤ 999999 := fun j => hT.2 32 j
    have A33 : ∀ j, 0 ≤ τ9.2.1 33 j ∧ τ9.2.1 33 j ≤ 20000 := fun j => hT.2 33 j
    have A34 : ∀ j, 0 ≤ τ9.2.1 34 j ∧ τ9.2.1 34 j ≤ 20000 := fun j => hT.2 34 j
    have A35 : ∀ j, 0 ≤ τ9.2.1 35 j ∧ τ9.2.1 35 j ≤ 1499 := fun j => hT.2 35 j
    have A36 : ∀ j, 0 ≤ τ9.2.1 36 j ∧ τ9.2.1 36 j ≤ 20000 := fun j => hT.2 36 j
    have A37 : ∀ j, 0 ≤ τ9.2.1 37 j ∧ τ9.2.1 37 j ≤ 19999 := fun j => hT.2 37 j
    have A44 : ∀ j, 0 ≤ τ9.2.1 44 j ∧ τ9.2.1 44 j ≤ 42000 := fun j => hT.2 44 j
    have A45 : ∀ j, 0 ≤ τ9.2.1 45 j ∧ τ9.2.1 45 j ≤ 1000 := fun j => hT.2 45 j
    have A49 : ∀ j, (-300) ≤ τ9.2.1 49 j ∧ τ9.2.1 49 j ≤ 67035 := fun j => hT.2 49 j
    have A51 : ∀ j, 0 ≤ τ9.2.1 51 j ∧ τ9.2.1 51 j ≤ 1499 := fun j => hT.2 51 j
    have A54 : ∀ j, 0 ≤ τ9.2.1 54 j ∧ τ9.2.1 54 j ≤ 999 := fun j => hT.2 54 j
    have v3 : 0 ≤ τ9.1 3 ∧ τ9.1 3 ≤ 2500 := hT.1 3
    have v4 : 0 ≤ τ9.1 4 ∧ τ9.1 4 ≤ 100 := hT.1 4
    have v5 : 0 ≤ τ9.1 5 ∧ τ9.1 5 ≤ 1000 := hT.1 5
    have v6 : 0 ≤ τ9.1 6 ∧ τ9.1 6 ≤ 30000 := hT.1 6
    have v7 : 0 ≤ τ9.1 7 ∧ τ9.1 7 ≤ 1500 := hT.1 7
    have v8 : 0 ≤ τ9.1 8 ∧ τ9.1 8 ≤ 1000 := hT.1 8
    have v9 : 0 ≤ τ9.1 9 ∧ τ9.1 9 ≤ 1500 := hT.1 9
    have v10 : 0 ≤ τ9.1 10 ∧ τ9.1 10 ≤ 1000 := hT.1 10
    have v11 : 0 ≤ τ9.1 11 ∧ τ9.1 11 ≤ 50 := hT.1 11
    have v12 : (-2147483648) ≤ τ9.1 12 ∧ τ9.1 12 ≤ 2147483647 := hT.1 12
    have v13 : 0 ≤ τ9.1 13 ∧ τ9.1 13 ≤ 90000 := hT.1 13
    have v14 : 0 ≤ τ9.1 14 ∧ τ9.1 14 ≤ 20000 := hT.1 14
    have v15 : 0 ≤ τ9.1 15 ∧ τ9.1 15 ≤ 20000 := hT.1 15
    have v16 : 0 ≤ τ9.1 16 ∧ τ9.1 16 ≤ 20000 := hT.1 16
    have v21 : 0 ≤ τ9.1 21 ∧ τ9.1 21 ≤ 20000 := hT.1 21
    have v22 : 0 ≤ τ9.1 22 ∧ τ9.1 22 ≤ 300 := hT.1 22
    have v23 : 0 ≤ τ9.1 23 ∧ τ9.1 23 ≤ 300 := hT.1 23
    have v24 : 0 ≤ τ9.1 24 ∧ τ9.1 24 ≤ 1499 := hT.1 24
    have v25 : 0 ≤ τ9.1 25 ∧ τ9.1 25 ≤ 3 := hT.1 25
    have v26 : 0 ≤ τ9.1 26 ∧ τ9.1 26 ≤ 5000010 := hT.1 26
    have v27 : 0 ≤ τ9.1 27 ∧ τ9.1 27 ≤ 1 := hT.1 27
    have v35 : 0 ≤ τ9.1 35 ∧ τ9.1 35 ≤ 7 := hT.1 35
    have v36 : 0 ≤ τ9.1 36 ∧ τ9.1 36 ≤ 1001 := hT.1 36
    have v37 : 0 ≤ τ9.1 37 ∧ τ9.1 37 ≤ 4 := hT.1 37
    have a14_7 : 0 ≤ τ9.2.1 14 (τ9.1 7) ∧ τ9.2.1 14 (τ9.1 7) ≤ 30000 := hT.2 14 _
    have a36_15 : 0 ≤ τ9.2.1 36 (τ9.1 15) ∧ τ9.2.1 36 (τ9.1 15) ≤ 20000 := hT.2 36 _
    have av13 : σ.1 13 ≤ τ9.1 13 := ag.1 13 (by decide)
    have av14 : σ.1 14 ≤ τ9.1 14 := ag.1 14 (by decide)
    exact ⟨hT, (show 0 ≤ x8 ∧ x8 ≤ 19 from by (first | assumption | omega | (simp only [st_s] <;> omega) | fail)), (show J_ht (τ9.1 3) (τ9.2.1 2) (τ9.2.1 3) (τ9.2.1 5) (τ9.2.1 6) from HT), (show J_mn (τ9.1 3) (τ9.1 5) ((τ9.1 7) + 1) (τ9.2.1 4) from MN), (show J_rks (τ9.1 5) (τ9.1 4) (τ9.2.1 10) (τ9.2.1 11) from RKS), (show J_vs (τ9.1 8) (τ9.1 5) (τ9.2.1 20) from VS), (show J_vs (τ9.1 6) (τ9.1 5) (τ9.2.1 15) from TX), (show J_va (τ9.1 8) 1000 (τ9.2.1 18) (τ9.2.1 20) from VA), (show J_mk (τ9.1 11) (τ9.1 8) (τ9.1 9) (τ9.1 10) (τ9.2.1 25) from MK), (show J_sc (τ9.1 7) (τ9.1 9) (τ9.2.1 13) (τ9.2.1 14) (τ9.2.1 15) (τ9.2.1 16) (τ9.2.1 22) (τ9.2.1 19) from SC), (show J_ff (τ9.1 5) (τ9.1 7) (τ9.2.1 9) (τ9.2.1 13) (τ9.2.1 14) (τ9.2.1 15) from FF), (show ∀ s : Int, τ9.2.1 26 s ≤ (τ9.1 12) from MT), (show J_all (τ9.1 7) (τ9.1 6) (τ9.1 13) (τ9.1 14) (τ9.1 15) (τ9.2.1 13) (τ9.2.1 14) (τ9.2.1 15) (τ9.2.1 16) (τ9.2.1 10) (τ9.2.1 27) (τ9.2.1 28) (τ9.2.1 29) (τ9.2.1 30) (τ9.2.1 31) (τ9.2.1 32) (τ9.2.1 33) (τ9.2.1 34) (τ9.2.1 35) (τ9.2.1 36) (τ9.2.1 37) from CJ), (show J_bp (τ9.2.1 44) (τ9.2.1 45) from BP), (show J_nl (τ9.1 3) (τ9.2.1 2) (τ9.2.1 3) (τ9.2.1 4) from NL), (show x8 = 0 → J_rs (τ9.1 35) (τ9.1 7) (τ9.1 6) (τ9.1 36) (τ9.1 37) (τ9.1 5) (τ9.1 8) (τ9.2.1 14) from by (first | (intro z; exfalso; omega) | exact q1_15 | exact q4_15 | exact q7_15 | (intro z; have w := q15_2 z; unfold J_rs; rw [G14, W7]; omega) | (intro z; unfold J_rs; rw [G14, W7]; omega) | (first | (intro z; exfalso; omega) | (intro z; unfold J_rs; omega) | (intro z; unfold J_rs; rw [G14, W7]; omega)) | fail)), (show x8 = 0 → 5 ≤ (τ9.1 35) → 1 ≤ (τ9.1 36) → 0 ≤ τ9.2.1 10 (τ9.2.1 15 (τ9.2.1 14 (τ9.1 7))) from by (first | (intro z; exfalso; omega) | exact q1_16 | exact q4_16 | exact q7_16 | (intro z y y2; exfalso; omega) | (intro z y; have w := q15_2 z; exfalso; omega) | (first | (intro z; exfalso; omega) | (intro z y; exfalso; omega) | exact fun _ => uc | (intro z y y2; exact uc (by omega) (by omega)) | (intro z y y2; exfalso; omega) | (intro z y y2; rw [G10, G14, G15, W7]; exact uc (by omega) (by omega))) | fail)), (show x8 = 0 → (τ9.1 35) = 4 → j_in (τ9.1 36) 1000 (τ9.2.1 54) from by (first | (intro z; exfalso; omega) | exact q1_17 | exact q4_17 | exact q7_17 | (intro z y; rw [show τ17.1 36 = 0 from (q15_2 z).1]; exact j_in0 _ _) | (first | (intro z; exfalso; omega) | (intro z y; exfalso; omega) | exact fun _ => dj) | fail)), (show x8 = 0 → 5 ≤ (τ9.1 35) → J_ip (τ9.1 7) (τ9.1 6) (τ9.1 37) (τ9.2.1 14) (τ9.2.1 15) (τ9.2.1 16) (τ9.2.1 19) from by (first | (intro z; exfalso; omega) | exact q1_18 | exact q4_18 | exact q7_18 | (intro z y; have w := q15_2 z; exfalso; omega) | (intro z y; exact J_ip0 (by rw [W6, G14, W7]; omega)) | (first | (intro z; exfalso; omega) | (intro z y; exfalso; omega) | exact fun _ => ipx | (intro z y; exact ipx (by omega)) | (intro z y; rw [W7, W6, W37, G14, G15, G16, G19]; exact ipx (by omega))) | fail)), (show x8 = 0 → ((τ9.1 35) ≤ 5 → (τ9.1 13) ≤ 60 * (τ9.1 7)) ∧ (τ9.1 13) ≤ 60 * (τ9.1 7) + 60 from by (first | (intro z; exfalso; omega) | exact q1_19 | exact q4_19 | exact q7_19 | (intro z; omega) | fail)), (show x8 = 0 → 6 ≤ (τ9.1 35) → (τ9.1 24) = (τ9.1 7) ∧ J_f (τ9.1 7) (τ9.1 13) (τ9.1 14) (τ9.2.1 13) (τ9.2.1 14) (τ9.2.1 15) (τ9.2.1 16) (τ9.2.1 27) (τ9.2.1 28) (τ9.2.1 29) (τ9.2.1 30) (τ9.2.1 31) (τ9.2.1 32) from by (first | (intro z; exfalso; omega) | exact q1_20 | exact q4_20 | exact q7_20 | (intro z y; have w := q15_2 z; exfalso; omega) | (intro z y; exfalso; omega) | (first | (intro z; exfalso; omega) | (intro z y; exfalso; omega) | exact fun _ => frx | (intro z y; exact frx (by omega)) | (intro z y; have w := frx (by omega); rw [W7, W13, W14, W24, G13, G14, G15, G16, G27, G28, G29, G30, G31, G32]; exact w)) | fail)), (show x8 = 0 → 6 ≤ (τ9.1 35) → J_sp (τ9.1 24) (τ9.1 21) (τ9.1 23) (τ9.1 22) (τ9.2.1 49) (τ9.2.1 51) ∧ ((τ9.1 16) + (τ9.1 21) ≤ 20000) ∧ (¬ (τ9.1 27) = 0 → 1 ≤ (τ9.1 21) ∧ 0 ≤ τ9.2.1 49 ((τ9.1 21) - 1) ∧ τ9.2.1 49 ((τ9.1 21) - 1) < 65536) ∧ ((τ9.1 26) ≤ 1000000) ∧ ((τ9.1 25) ≤ 2 → (τ9.1 27) = 0) from by (first | (intro z; exfalso; omega) | exact q1_21 | exact q4_21 | exact q7_21 | (intro z y; have w := q15_2 z; exfalso; omega) | (intro z y; exfalso; omega) | (first | (intro z; exfalso; omega) | (intro z y; exfalso; omega) | exact fun _ => spx | (intro z y; exact spx (by omega))) | fail)), (show x8 = 0 → (τ9.1 15) ≤ (τ9.1 16) ∧ τ9.2.1 36 (τ9.1 15) ≤ (τ9.1 16) from by (first | (intro z; exfalso; omega) | exact q1_22 | exact q4_22 | exact q7_22 | (intro z; first | exact sux | omega) | fail)), (show x8 = 0 → (τ9.1 9) ≤ (τ9.1 7) from by (first | (intro z; exfalso; omega) | exact q1_23 | exact q4_23 | exact q7_23 | (intro z; omega) | fail)), (show j_rr ((σ.1 5)) (σ.2.1 10) (τ9.2.1 10) from by (first | exact j_rr0 _ _ | exact q1_24 | exact q4_24 | exact q7_24 | (rw [G10]; exact j_rr0 _ _) | fail)), (show j_eq (σ.2.1 36 (σ.1 15)) (σ.2.1 37) (τ9.2.1 37) from CH), (show (τ9.1 12) ≤ (σ.1 12) + 1 from by (first | assumption | omega | (simp only [st_s] <;> omega) | fail)), (show c_Y σ τ9 from by (first | exact c_Y0 _ | exact c_Y_g W4 G11 G20 G22 G25 | exact q1_27 | exact q4_27 | exact q7_27 | exact c_Y_g (by omega) (by rw [g11_τ4]) (by rw [g20_τ4]) (by rw [g22_τ4]) (by rw [g25_τ4]) | exact c_Y_g (by omega) (by rw [g11_τ13]) (by rw [g20_τ13]) (by rw [g22_τ13]) (by rw [g25_τ13]) | exact c_Y_g (by omega) (by rw [g11_τ17]) (by rw [g20_τ17]) (by rw [g22_τ17]) (by rw [g25_τ17]) | fail)), ag⟩
  ·
    exact ⟨hT, (show 0 ≤ 3 ∧ 3 ≤ 19 from by (first | assumption | omega | (simp only [st_s] <;> omega) | fail)), (show J_ht (σ.1 3) (σ.2.1 2) (σ.2.1 3) (σ.2.1 5) (σ.2.1 6) from HT), (show J_mn (σ.1 3) (σ.1 5) ((σ.1 7) + 1) (σ.2.1 4) from MN), (show J_rks (σ.1 5) (σ.1 4) (σ.2.1 10) (σ.2.1 11) from RKS), (show J_vs (σ.1 8) (σ.1 5) (σ.2.1 20) from VS), (show J_vs (σ.1 6) (σ.1 5) (σ.2.1 15) from TX), (show J_va (σ.1 8) 1000 (σ.2.1 18) (σ.2.1 20) from VA), (show J_mk (σ.1 11) (σ.1 8) (σ.1 9) (σ.1 10) (σ.2.1 25) from MK), (show J_sc (σ.1 7) (σ.1 9) (σ.2.1 13) (σ.2.1 14) (σ.2.1 15) (σ.2.1 16) (σ.2.1 22) (σ.2.1 19) from SC), (show J_ff (σ.1 5) (σ.1 7) (σ.2.1 9) (σ.2.1 13) (σ.2.1 14) (σ.2.1 15) from FF), (show ∀ s : Int, σ.2.1 26 s ≤ (σ.1 12) from MT), (show J_all (σ.1 7) (σ.1 6) (σ.1 13) (σ.1 14) (σ.1 15) (σ.2.1 13) (σ.2.1 14) (σ.2.1 15) (σ.2.1 16) (σ.2.1 10) (σ.2.1 27) (σ.2.1 28) (σ.2.1 29) (σ.2.1 30) (σ.2.1 31) (σ.2.1 32) (σ.2.1 33) (σ.2.1 34) (σ.2.1 35) (σ.2.1 36) (σ.2.1 37) from CJ), (show J_bp (σ.2.1 44) (σ.2.1 45) from BP), (show J_nl (σ.1 3) (σ.2.1 2) (σ.2.1 3) (σ.2.1 4) from NL), (show 3 = 0 → J_rs (σ.1 35) (σ.1 7) (σ.1 6) (σ.1 36) (σ.1 37) (σ.1 5) (σ.1 8) (σ.2.1 14) from by (first | (intro z; exfalso; omega) | exact q1_15 | exact q4_15 | exact q7_15 | (intro z; have w := q15_2 z; unfold J_rs; rw [G14, W7]; omega) | (intro z; unfold J_rs; rw [G14, W7]; omega) | (first | (intro z; exfalso; omega) | (intro z; unfold J_rs; omega) | (intro z; unfold J_rs; rw [G14, W7]; omega)) | fail)), (show 3 = 0 → 5 ≤ (σ.1 35) → 1 ≤ (σ.1 36) → 0 ≤ σ.2.1 10 (σ.2.1 15 (σ.2.1 14 (σ.1 7))) from by (first | (intro z; exfalso; omega) | exact q1_16 | exact q4_16 | exact q7_16 | (intro z y y2; exfalso; omega) | (intro z y; have w := q15_2 z; exfalso; omega) | (first | (intro z; exfalso; omega) | (intro z y; exfalso; omega) | exact fun _ => uc | (intro z y y2; exact uc (by omega) (by omega)) | (intro z y y2; exfalso; omega) | (intro z y y2; rw [G10, G14, G15, W7]; exact uc (by omega) (by omega))) | fail)), (show 3 = 0 → (σ.1 35) = 4 → j_in (σ.1 36) 1000 (σ.2.1 54) from by (first | (intro z; exfalso; omega) | exact q1_17 | exact q4_17 | exact q7_17 | (intro z y; rw [show τ17.1 36 = 0 from (q15_2 z).1]; exact j_in0 _ _) | (first | (intro z; exfalso; omega) | (intro z y; exfalso; omega) | exact fun _ => dj) | fail)), (show 3 = 0 → 5 ≤ (σ.1 35) → J_ip (σ.1 7) (σ.1 6) (σ.1 37) (σ.2.1 14) (σ.2.1 15) (σ.2.1 16) (σ.2.1 19) from by (first | (intro z; exfalso; omega) | exact q1_18 | exact q4_18 | exact q7_18 | (intro z y; have w := q15_2 z; exfalso; omega) | (intro z y; exact J_ip0 (by rw [W6, G14, W7]; omega)) | (first | (intro z; exfalso; omega) | (intro z y; exfalso; omega) | exact fun _ => ipx | (intro z y; exact ipx (by omega)) | (intro z y; rw [W7, W6, W37, G14, G15, G16, G19]; exact ipx (by omega))) | fail)), (show 3 = 0 → ((σ.1 35) ≤ 5 → (σ.1 13) ≤ 60 * (σ.1 7)) ∧ (σ.1 13) ≤ 60 * (σ.1 7) + 60 from by (first | (intro z; exfalso; omega) | exact q1_19 | exact q4_19 | exact q7_19 | (intro z; omega) | fail)), (show 3 = 0 → 6 ≤ (σ.1 35) → (σ.1 24) = (σ.1 7) ∧ J_f (σ.1 7) (σ.1 13) (σ.1 14) (σ.2.1 13) (σ.2.1 14) (σ.2.1 15) (σ.2.1 16) (σ.2.1 27) (σ.2.1 28) (σ.2.1 29) (σ.2.1 30) (σ.2.1 31) (σ.2.1 32) from by (first | (intro z; exfalso; omega) | exact q1_20 | exact q4_20 | exact q7_20 | (intro z y; have w := q15_2 z; exfalso; omega) | (intro z y; exfalso; omega) | (first | (intro z; exfalso; omega) | (intro z y; exfalso; omega) | exact fun _ => frx | (intro z y; exact frx (by omega)) | (intro z y; have w := frx (by omega); rw [W7, W13, W14, W24, G13, G14, G15, G16, G27, G28, G29, G30, G31, G32]; exact w)) | fail)), (show 3 = 0 → 6 ≤ (σ.1 35) → J_sp (σ.1 24) (σ.1 21) (σ.1 23) (σ.1 22) (σ.2.1 49) (σ.2.1 51) ∧ ((σ.1 16) + (σ.1 21) ≤ 20000) ∧ (¬ (σ.1 27) = 0 → 1 ≤ (σ.1 21) ∧ 0 ≤ σ.2.1 49 ((σ.1 21) - 1) ∧ σ.2.1 49 ((σ.1 21) - 1) < 65536) ∧ ((σ.1 26) ≤ 1000000) ∧ ((σ.1 25) ≤ 2 → (σ.1 27) = 0) from by (first | (intro z; exfalso; omega) | exact q1_21 | exact q4_21 | exact q7_21 | (intro z y; have w := q15_2 z; exfalso; omega) | (intro z y; exfalso; omega) | (first | (intro z; exfalso; omega) | (intro z y; exfalso; omega) | exact fun _ => spx | (intro z y; exact spx (by omega))) | fail)), (show 3 = 0 → (σ.1 15) ≤ (σ.1 16) ∧ σ.2.1 36 (σ.1 15) ≤ (σ.1 16) from by (first | (intro z; exfalso; omega) | exact q1_22 | exact q4_22 | exact q7_22 | (intro z; first | exact sux | omega) | fail)), (show 3 = 0 → (σ.1 9) ≤ (σ.1 7) from by (first | (intro z; exfalso; omega) | exact q1_23 | exact q4_23 | exact q7_23 | (intro z; omega) | fail)), (show j_rr ((σ.1 5)) (σ.2.1 10) (σ.2.1 10) from by (first | exact j_rr0 _ _ | exact q1_24 | exact q4_24 | exact q7_24 | (rw [G10]; exact j_rr0 _ _) | fail)), (show j_eq (σ.2.1 36 (σ.1 15)) (σ.2.1 37) (σ.2.1 37) from CH), (show (σ.1 12) ≤ (σ.1 12) + 1 from by (first | assumption | omega | (simp only [st_s] <;> omega) | fail)), (show c_Y σ σ from by (first | exact c_Y0 _ | exact c_Y_g W4 G11 G20 G22 G25 | exact q1_27 | exact q4_27 | exact q7_27 | exact c_Y_g (by omega) (by rw [g11_τ4]) (by rw [g20_τ4]) (by rw [g22_τ4]) (by rw [g25_τ4]) | exact c_Y_g (by omega) (by rw [g11_τ13]) (by rw [g20_τ13]) (by rw [g22_τ13]) (by rw [g25_τ13]) | exact c_Y_g (by omega) (by rw [g11_τ17]) (by rw [g20_τ17]) (by rw [g22_τ17]) (by rw [g25_τ17]) | fail)), ag⟩
set_option maxHeartbeats 1000000 in
theorem K2_X7_endDeclaration {n1 : Int} {σ : S0} (hT : c_T σ) (p1 : 0 ≤ n1) (p2 : n1 ≤ 2) : W_X7_endDeclaration n1 σ (fun (x : Int) (τ : S0) => (c_T τ) ∧ (0 ≤ x ∧ x ≤ 19) ∧ ((τ.1 35) = 0)) := by
  have v35 : 0 ≤ σ.1 35 ∧ σ.1 35 ≤ 7 := hT.1 35
  have v36 : 0 ≤ σ.1 36 ∧ σ.1 36 ≤ 1001 := hT.1 36
  have W36 : σ.1 36 = σ.1 36 := rfl
  unfold W_X7_endDeclaration
  replace hT := cT_v (i := 35) hT (show (0 : Int) ≤ 0 ∧ 0 ≤ 7 from by (first | assumption | omega | (simp only [st_s] <;> omega) | fail))
  refine ⟨fun c1 => ?_, fun c1 => ?_⟩
  ·
    exact ⟨hT, (show 0 ≤ 0 ∧ 0 ≤ 19 from by (first | assumption | omega | (simp only [st_s] <;> omega) | fail)), (show ((0 : Int)) = 0 from by (first | assumption | omega | (simp only [st_s] <;> omega) | fail))⟩
  ·
    exact ⟨hT, (show 0 ≤ 4 ∧ 4 ≤ 19 from by (first | assumption | omega | (simp only [st_s] <;> omega) | fail)), (show ((0 : Int)) = 0 from by (first | assumption | omega | (simp only [st_s] <;> omega) | fail))⟩
set_option maxHeartbeats 4000000 in
theorem K_X7_endStatement {σ : S0} (hT : c_T σ) (p1 : J_ht (σ.1 3) (σ.2.1 2) (σ.2.1 3) (σ.2.1 5) (σ.2.1 6)) (p2 : J_mn (σ.1 3) (σ.1 5) ((σ.1 7) + 1) (σ.2.1 4)) (p3 : J_rks (σ.1 5) (σ.1 4) (σ.2.1 10) (σ.2.1 11)) (p4 : J_vs (σ.1 8) (σ.1 5) (σ.2.1 20)) (p5 : J_vs (σ.1 6) (σ.1 5) (σ.2.1 15)) (p6 : J_va (σ.1 8) 1000 (σ.2.1 18) (σ.2.1 20)) (p7 : J_mk (σ.1 11) (σ.1 8) (σ.1 9) (σ.1 10) (σ.2.1 25)) (p8 : J_sc (σ.1 7) (σ.1 9) (σ.2.1 13) (σ.2.1 14) (σ.2.1 15) (σ.2.1 16) (σ.2.1 22) (σ.2.1 19)) (p9 : J_ff (σ.1 5) (σ.1 7) (σ.2.1 9) (σ.2.1 13) (σ.2.1 14) (σ.2.1 15)) (p10 : ∀ s : Int, σ.2.1 26 s ≤ (σ.1 12)) (p11 : J_all (σ.1 7) (σ.1 6) (σ.1 13) (σ.1 14) (σ.1 15) (σ.2.1 13) (σ.2.1 14) (σ.2.1 15) (σ.2.1 16) (σ.2.1 10) (σ.2.1 27) (σ.2.1 28) (σ.2.1 29) (σ.2.1 30) (σ.2.1 31) (σ.2.1 32) (σ.2.1 33) (σ.2.1 34) (σ.2.1 35) (σ.2.1 36) (σ.2.1 37)) (p12 : J_bp (σ.2.1 44) (σ.2.1 45)) (p13 : J_nl (σ.1 3) (σ.2.1 2) (σ.2.1 3) (σ.2.1 4)) (p14 : J_rs (σ.1 35) (σ.1 7) (σ.1 6) (σ.1 36) (σ.1 37) (σ.1 5) (σ.1 8) (σ.2.1 14)) (p15 : 5 ≤ (σ.1 35) → 1 ≤ (σ.1 36) → 0 ≤ σ.2.1 10 (σ.2.1 15 (σ.2.1 14 (σ.1 7)))) (p16 : (σ.1 35) = 4 → j_in (σ.1 36) 1000 (σ.2.1 54)) (p17 : 5 ≤ (σ.1 35) → J_ip (σ.1 7) (σ.1 6) (σ.1 37) (σ.2.1 14) (σ.2.1 15) (σ.2.1 16) (σ.2.1 19)) (p18 : ((σ.1 35) ≤ 5 → (σ.1 13) ≤ 60 * (σ.1 7)) ∧ (σ.1 13) ≤ 60 * (σ.1 7) + 60) (p19 : 6 ≤ (σ.1 35) → (σ.1 24) = (σ.1 7) ∧ J_f (σ.1 7) (σ.1 13) (σ.1 14) (σ.2.1 13) (σ.2.1 14) (σ.2.1 15) (σ.2.1 16) (σ.2.1 27) (σ.2.1 28) (σ.2.1 29) (σ.2.1 30) (σ.2.1 31) (σ.2.1 32)) (p20 : 6 ≤ (σ.1 35) → J_sp (σ.1 24) (σ.1 21) (σ.1 23) (σ.1 22) (σ.2.1 49) (σ.2.1 51) ∧ ((σ.1 16) + (σ.1 21) ≤ 20000) ∧ (¬ (σ.1 27) = 0 → 1 ≤ (σ.1 21) ∧ 0 ≤ σ.2.1 49 ((σ.1 21) - 1) ∧ σ.2.1 49 ((σ.1 21) - 1) < 65536) ∧ ((σ.1 26) ≤ 1000000) ∧ ((σ.1 25) ≤ 2 → (σ.1 27) = 0)) (p21 : (σ.1 15) ≤ (σ.1 16) ∧ σ.2.1 36 (σ.1 15) ≤ (σ.1 16)) (p22 : (σ.1 9) ≤ (σ.1 7)) (p23 : (σ.1 35) = 5) (p24 : (σ.1 12) < 2147483647) : W_X7_endStatement σ (fun (x : Int) (τ : S0) => (c_T τ) ∧ (0 ≤ x ∧ x ≤ 19) ∧ (J_ht (τ.1 3) (τ.2.1 2) (τ.2.1 3) (τ.2.1 5) (τ.2.1 6)) ∧ (J_mn (τ.1 3) (τ.1 5) ((τ.1 7) + 1) (τ.2.1 4)) ∧ (J_rks (τ.1 5) (τ.1 4) (τ.2.1 10) (τ.2.1 11)) ∧ (J_vs (τ.1 8) (τ.1 5) (τ.2.1 20)) ∧ (J_vs (τ.1 6) (τ.1 5) (τ.2.1 15)) ∧ (J_va (τ.1 8) 1000 (τ.2.1 18) (τ.2.1 20)) ∧ (J_mk (τ.1 11) (τ.1 8) (τ.1 9) (τ.1 10) (τ.2.1 25)) ∧ (J_sc (τ.1 7) (τ.1 9) (τ.2.1 13) (τ.2.1 14) (τ.2.1 15) (τ.2.1 16) (τ.2.1 22) (τ.2.1 19)) ∧ (J_ff (τ.1 5) (τ.1 7) (τ.2.1 9) (τ.2.1 13) (τ.2.1 14) (τ.2.1 15)) ∧ (∀ s : Int, τ.2.1 26 s ≤ (τ.1 12)) ∧ (J_all (τ.1 7) (τ.1 6) (τ.1 13) (τ.1 14) (τ.1 15) (τ.2.1 13) (τ.2.1 14) (τ.2.1 15) (τ.2.1 16) (τ.2.1 10) (τ.2.1 27) (τ.2.1 28) (τ.2.1 29) (τ.2.1 30) (τ.2.1 31) (τ.2.1 32) (τ.2.1 33) (τ.2.1 34) (τ.2.1 35) (τ.2.1 36) (τ.2.1 37)) ∧ (J_bp (τ.2.1 44) (τ.2.1 45)) ∧ (J_nl (τ.1 3) (τ.2.1 2) (τ.2.1 3) (τ.2.1 4)) ∧ (x = 0 → J_rs (τ.1 35) (τ.1 7) (τ.1 6) (τ.1 36) (τ.1 37) (τ.1 5) (τ.1 8) (τ.2.1 14)) ∧ (x = 0 → 5 ≤ (τ.1 35) → 1 ≤ (τ.1 36) → 0 ≤ τ.2.1 10 (τ.2.1 15 (τ.2.1 14 (τ.1 7)))) ∧ (x = 0 → (τ.1 35) = 4 → j_in (τ.1 36) 1000 (τ.2.1 54)) ∧ (x = 0 → 5 ≤ (τ.1 35) → J_ip (τ.1 7) (τ.1 6) (τ.1 37) (τ.2.1 14) (τ.2.1 15) (τ.2.1 16) (τ.2.1 19)) ∧ (x = 0 → ((τ.1 35) ≤ 5 → (τ.1 13) ≤ 60 * (τ.1 7)) ∧ (τ.1 13) ≤ 60 * (τ.1 7) + 60) ∧ (x = 0 → 6 ≤ (τ.1 35) → (τ.1 24) = (τ.1 7) ∧ J_f (τ.1 7) (τ.1 13) (τ.1 14) (τ.2.1 13) (τ.2.1 14) (τ.2.1 15) (τ.2.1 16) (τ.2.1 27) (τ.2.1 28) (τ.2.1 29) (τ.2.1 30) (τ.2.1 31) (τ.2.1 32)) ∧ (x = 0 → 6 ≤ (τ.1 35) → J_sp (τ.1 24) (τ.1 21) (τ.1 23) (τ.1 22) (τ.2.1 49) (τ.2.1 51) ∧ ((τ.1 16) + (τ.1 21) ≤ 20000) ∧ (¬ (τ.1 27) = 0 → 1 ≤ (τ.1 21) ∧ 0 ≤ τ.2.1 49 ((τ.1 21) - 1) ∧ τ.2.1 49 ((τ.1 21) - 1) < 65536) ∧ ((τ.1 26) ≤ 1000000) ∧ ((τ.1 25) ≤ 2 → (τ.1 27) = 0)) ∧ (x = 0 → (τ.1 15) ≤ (τ.1 16) ∧ τ.2.1 36 (τ.1 15) ≤ (τ.1 16)) ∧ (x = 0 → (τ.1 9) ≤ (τ.1 7)) ∧ (j_rr ((σ.1 5)) (σ.2.1 10) (τ.2.1 10)) ∧ (j_eq (σ.2.1 36 (σ.1 15)) (σ.2.1 37) (τ.2.1 37)) ∧ ((τ.1 12) ≤ (σ.1 12) + 1) ∧ (c_Y σ τ) ∧ (c_ag σ τ)) := by
  have A2 : ∀ j, 0 ≤ σ.2.1 2 j ∧ σ.2.1 2 j ≤ 65535 := fun j => hT.2 2 j
  have A3 : ∀ j, 0 ≤ σ.2.1 3 j ∧ σ.2.1 3 j ≤ 30000 := fun j => hT.2 3 j
  have A4 : ∀ j, (-1000) ≤ σ.2.1 4 j ∧ σ.2.1 4 j ≤ 1499 := fun j => hT.2 4 j
  have A5 : ∀ j, 0 ≤ σ.2.1 5 j ∧ σ.2.1 5 j ≤ 2500 := fun j => hT.2 5 j
  have A6 : ∀ j, 0 ≤ σ.2.1 6 j ∧ σ.2.1 6 j ≤ 2500 := fun j => hT.2 6 j
  have A8 : ∀ j, 0 ≤ σ.2.1 8 j ∧ σ.2.1 8 j ≤ 1 := fun j => hT.2 8 j
  have A9 : ∀ j, (-1) ≤ σ.2.1 9 j ∧ σ.2.1 9 j ≤ 1499 := fun j => hT.2 9 j
  have A10 : ∀ j, (-1) ≤ σ.2.1 10 j ∧ σ.2.1 10 j ≤ 99 := fun j => hT.2 10 j
  have A11 : ∀ j, 0 ≤ σ.2.1 11 j ∧ σ.2.1 11 j ≤ 999 := fun j => hT.2 11 j
  have A13 : ∀ j, 0 ≤ σ.2.1 13 j ∧ σ.2.1 13 j ≤ 4 := fun j => hT.2 13 j
  have A14 : ∀ j, 0 ≤ σ.2.1 14 j ∧ σ.2.1 14 j ≤ 30000 := fun j => hT.2 14 j
  have A15 : ∀ j, 0 ≤ σ.2.1 15 j ∧ σ.2.1 15 j ≤ 999 := fun j => hT.2 15 j
  have A16 : ∀ j, (-1) ≤ σ.2.1 16 j ∧ σ.2.1 16 j ≤ 1499 := fun j => hT.2 16 j
  have A18 : ∀ j, 0 ≤ σ.2.1 18 j ∧ σ.2.1 18 j ≤ 1 := fun j => hT.2 18 j
  have A19 : ∀ j, (-1) ≤ σ.2.1 19 j ∧ σ.2.1 19 j ≤ 1499 := fun j => hT.2 19 j
  have A20 : ∀ j, 0 ≤ σ.2.1 20 j ∧ σ.2.1 20 j ≤ 999 := fun j => hT.2 20 j
  have A22 : ∀ j, 0 ≤ σ.2.1 22 j ∧ σ.2.1 22 j ≤ 1499 := fun j => hT.2 22 j
  have A23 : ∀ j, 0 ≤ σ.2.1 23 j ∧ σ.2.1 23 j ≤ 999 := fun j => hT.2 23 j
  have A24 : ∀ j, 0 ≤ σ.2.1 24 j ∧ σ.2.1 24 j ≤ 999 := fun j => hT.2 24 j
  have A26 : ∀ j, (-2147483648) ≤ σ.2.1 26 j ∧ σ.2.1 26 j ≤ 2147483647 := fun j => hT.2 26 j
  have A27 : ∀ j, 0 ≤ σ.2.1 27 j ∧ σ.2.1 27 j ≤ 90000 := fun j => hT.2 27 j
  have A28 : ∀ j, 0 ≤ σ.2.1 28 j ∧ σ.2.1 28 j ≤ 60 := fun j => hT.2 28 j
  have A29 : ∀ j, 0 ≤ σ.2.1 29 j ∧ σ.2.1 29 j ≤ 1499 := fun j => hT.2 29 j
  have A30 : ∀ j, 0 ≤ σ.2.1 30 j ∧ σ.2.1 30 j ≤ 20000 := fun j => hT.2 30 j
  have A31 : ∀ j, 0 ≤ σ.2.1 31 j ∧ σ.2.1 31 j ≤ 20000 := fun j => hT.2 31 j
  have A32 : ∀ j, 0 ≤ σ.2.1 32 j ∧ σ.2.1 32 j ≤ 999999 := fun j => hT.2 32 j
  have A33 : ∀ j, 0 ≤ σ.2.1 33 j ∧ σ.2.1 33 j ≤ 20000 := fun j => hT.2 33 j
  have A34 : ∀ j, 0 ≤ σ.2.1 34 j ∧ σ.2.1 34 j ≤ 20000 := fun j => hT.2 34 j
  have A35 : ∀ j, 0 ≤ σ.2.1 35 j ∧ σ.2.1 35 j ≤ 1499 := fun j => hT.2 35 j
  have A36 : ∀ j, 0 ≤ σ.2.1 36 j ∧ σ.2.1 36 j ≤ 20000 := fun j => hT.2 36 j
  have A37 : ∀ j, 0 ≤ σ.2.1 37 j ∧ σ.2.1 37 j ≤ 19999 := fun j => hT.2 37 j
  have A44 : ∀ j, 0 ≤ σ.2.1 44 j ∧ σ.2.1 44 j ≤ 42000 := fun j => hT.2 44 j
  have A45 : ∀ j, 0 ≤ σ.2.1 45 j ∧ σ.2.1 45 j ≤ 1000 := fun j => hT.2 45 j
  have A49 : ∀ j, (-300) ≤ σ.2.1 49 j ∧ σ.2.1 49 j ≤ 67035 := fun j => hT.2 49 j
  have A51 : ∀ j, 0 ≤ σ.2.1 51 j ∧ σ.2.1 51 j ≤ 1499 := fun j => hT.2 51 j
  have A54 : ∀ j, 0 ≤ σ.2.1 54 j ∧ σ.2.1 54 j ≤ 999 := fun j => hT.2 54 j
  have v3 : 0 ≤ σ.1 3 ∧ σ.1 3 ≤ 2500 := hT.1 3
  have v4 : 0 ≤ σ.1 4 ∧ σ.1 4 ≤ 100 := hT.1 4
  have v5 : 0 ≤ σ.1 5 ∧ σ.1 5 ≤ 1000 := hT.1 5
  have v6 : 0 ≤ σ.1 6 ∧ σ.1 6 ≤ 30000 := hT.1 6
  have v7 : 0 ≤ σ.1 7 ∧ σ.1 7 ≤ 1500 := hT.1 7
  have v8 : 0 ≤ σ.1 8 ∧ σ.1 8 ≤ 1000 := hT.1 8
  have v9 : 0 ≤ σ.1 9 ∧ σ.1 9 ≤ 1500 := hT.1 9
  have v10 : 0 ≤ σ.1 10 ∧ σ.1 10 ≤ 1000 := hT.1 10
  have v11 : 0 ≤ σ.1 11 ∧ σ.1 11 ≤ 50 := hT.1 11
  have v12 : (-2147483648) ≤ σ.1 12 ∧ σ.1 12 ≤ 2147483647 := hT.1 12
  have v13 : 0 ≤ σ.1 13 ∧ σ.1 13 ≤ 90000 := hT.1 13
  have v14 : 0 ≤ σ.1 14 ∧ σ.1 14 ≤ 20000 := hT.1 14
  have v15 : 0 ≤ σ.1 15 ∧ σ.1 15 ≤ 20000 := hT.1 15
  have v16 : 0 ≤ σ.1 16 ∧ σ.1 16 ≤ 20000 := hT.1 16
  have v21 : 0 ≤ σ.1 21 ∧ σ.1 21 ≤ 20000 := hT.1 21
  have v22 : 0 ≤ σ.1 22 ∧ σ.1 22 ≤ 300 := hT.1 22
  have v23 : 0 ≤ σ.1 23 ∧ σ.1 23 ≤ 300 := hT.1 23
  have v24 : 0 ≤ σ.1 24 ∧ σ.1 24 ≤ 1499 := hT.1 24
  have v25 : 0 ≤ σ.1 25 ∧ σ.1 25 ≤ 3 := hT.1 25
  have v26 : 0 ≤ σ.1 26 ∧ σ.1 26 ≤ 5000010 := hT.1 26
  have v27 : 0 ≤ σ.1 27 ∧ σ.1 27 ≤ 1 := hT.1 27
  have v35 : 0 ≤ σ.1 35 ∧ σ.1 35 ≤ 7 := hT.1 35
  have v36 : 0 ≤ σ.1 36 ∧ σ.1 36 ≤ 1001 := hT.1 36
  have v37 : 0 ≤ σ.1 37 ∧ σ.1 37 ≤ 4 := hT.1 37
  have a13_7 : 0 ≤ σ.2.1 13 (σ.1 7) ∧ σ.2.1 13 (σ.1 7) ≤ 4 := hT.2 13 _
  have a14_7 : 0 ≤ σ.2.1 14 (σ.1 7) ∧ σ.2.1 14 (σ.1 7) ≤ 30000 := hT.2 14 _
  have a36_15 : 0 ≤ σ.2.1 36 (σ.1 15) ∧ σ.2.1 36 (σ.1 15) ≤ 20000 := hT.2 36 _
  have W3 : σ.1 3 = σ.1 3 := rfl
  have W4 : σ.1 4 = σ.1 4 := rfl
  have W5 : σ.1 5 = σ.1 5 := rfl
  have W6 : σ.1 6 = σ.1 6 := rfl
  have W8 : σ.1 8 = σ.1 8 := rfl
  have W10 : σ.1 10 = σ.1 10 := rfl
  have W11 : σ.1 11 = σ.1 11 := rfl
  have W15 : σ.1 15 = σ.1 15 := rfl
  have W16 : σ.1 16 = σ.1 16 := rfl
  have W21 : σ.1 21 = σ.1 21 := rfl
  have W22 : σ.1 22 = σ.1 22 := rfl
  have W23 : σ.1 23 = σ.1 23 := rfl
  have W24 : σ.1 24 = σ.1 24 := rfl
  have W25 : σ.1 25 = σ.1 25 := rfl
  have W26 : σ.1 26 = σ.1 26 := rfl
  have W27 : σ.1 27 = σ.1 27 := rfl
  have W36 : σ.1 36 = σ.1 36 := rfl
  have W37 : σ.1 37 = σ.1 37 := rfl
  have G2 : σ.2.1 2 = σ.2.1 2 := rfl
  have G3 : σ.2.1 3 = σ.2.1 3 := rfl
  have G4 : σ.2.1 4 = σ.2.1 4 := rfl
  have G5 : σ.2.1 5 = σ.2.1 5 := rfl
  have G6 : σ.2.1 6 = σ.2.1 6 := rfl
  have G8 : σ.2.1 8 = σ.2.1 8 := rfl
  have G10 : σ.2.1 10 = σ.2.1 10 := rfl
  have G11 : σ.2.1 11 = σ.2.1 11 := rfl
  have G14 : σ.2.1 14 = σ.2.1 14 := rfl
  have G15 : σ.2.1 15 = σ.2.1 15 := rfl
  have G16 : σ.2.1 16 = σ.2.1 16 := rfl
  have G18 : σ.2.1 18 = σ.2.1 18 := rfl
  have G20 : σ.2.1 20 = σ.2.1 20 := rfl
  have G23 : σ.2.1 23 = σ.2.1 23 := rfl
  have G24 : σ.2.1 24 = σ.2.1 24 := rfl
  have G25 : σ.2.1 25 = σ.2.1 25 := rfl
  have G33 : σ.2.1 33 = σ.2.1 33 := rfl
  have G34 : σ.2.1 34 = σ.2.1 34 := rfl
  have G35 : σ.2.1 35 = σ.2.1 35 := rfl
  have G36 : σ.2.1 36 = σ.2.1 36 := rfl
  have G37 : σ.2.1 37 = σ.2.1 37 := rfl
  have G44 : σ.2.1 44 = σ.2.1 44 := rfl
  have G45 : σ.2.1 45 = σ.2.1 45 := rfl
  have G49 : σ.2.1 49 = σ.2.1 49 := rfl
  have G51 : σ.2.1 51 = σ.2.1 51 := rfl
  have G54 : σ.2.1 54 = σ.2.1 54 := rfl
  have ag : c_ag σ σ := ag_0 σ
  intro P12 P60 P87 h12 h60 h87
  have hT0 := hT
  have t015 : ∀ p : Int, 0 ≤ σ.2.1 15 p ∧ σ.2.1 15 p < 1000 := fun p => ⟨(A15 p).1, by have := (A15 p).2; omega⟩
  have CH := j_eq0 (σ.2.1 36 (σ.1 15)) (σ.2.1 37)
  have jt := c_Jt p11
  have JFx := c_JF jt p8 (fun m => (hT.2 22 m).1) (by omega)
  have FPx := c_FP jt p9 (by omega)
  have uc := p15
  have dj := p16
  have ipx := p17
  have hux := p18
  have frx := p19
  have spx := p20
  have sux := p21
  have hcx := p22
  have rsx := p14
  unfold J_rs at rsx
  have mk0 : σ.2.1 25 1 ≤ σ.2.1 25 (3 * σ.1 11 + 1) := (p7.1 0 (σ.1 11) (by omega) (by omega) (Int.le_refl _)).2.1
  have mk1 := p7.2
  have HT : J_ht (σ.1 3) (σ.2.1 2) (σ.2.1 3) (σ.2.1 5) (σ.2.1 6) := p1
  have NL : J_nl (σ.1 3) (σ.2.1 2) (σ.2.1 3) (σ.2.1 4) := p13
  have MN : J_mn (σ.1 3) (σ.1 5) ((σ.1 7) + 1) (σ.2.1 4) := p2
  have VA : J_va (σ.1 8) 1000 (σ.2.1 18) (σ.2.1 20) := p6
  have SC : J_sc (σ.1 7) (σ.1 9) (σ.2.1 13) (σ.2.1 14) (σ.2.1 15) (σ.2.1 16) (σ.2.1 22) (σ.2.1 19) := p8
  have MK : J_mk (σ.1 11) (σ.1 8) (σ.1 9) (σ.1 10) (σ.2.1 25) := p7
  have FF : J_ff (σ.1 5) (σ.1 7) (σ.2.1 9) (σ.2.1 13) (σ.2.1 14) (σ.2.1 15) := p9
  have MT : ∀ s : Int, σ.2.1 26 s ≤ (σ.1 12) := p10
  have VS : J_vs (σ.1 8) (σ.1 5) (σ.2.1 20) := p4
  have TX : J_vs (σ.1 6) (σ.1 5) (σ.2.1 15) := p5
  have RKS : J_rks (σ.1 5) (σ.1 4) (σ.2.1 10) (σ.2.1 11) := p3
  have CJ : J_all (σ.1 7) (σ.1 6) (σ.1 13) (σ.1 14) (σ.1 15) (σ.2.1 13) (σ.2.1 14) (σ.2.1 15) (σ.2.1 16) (σ.2.1 10) (σ.2.1 27) (σ.2.1 28) (σ.2.1 29) (σ.2.1 30) (σ.2.1 31) (σ.2.1 32) (σ.2.1 33) (σ.2.1 34) (σ.2.1 35) (σ.2.1 36) (σ.2.1 37) := p11
  have BP : J_bp (σ.2.1 44) (σ.2.1 45) := p12
  have RS : J_rs (σ.1 35) (σ.1 7) (σ.1 6) (σ.1 36) (σ.1 37) (σ.1 5) (σ.1 8) (σ.2.1 14) := p14
  have BP_0 := BP
  have CH_0 := CH
  have CJ_0 := CJ
  have FF_0 := FF
  have HT_0 := HT
  have MK_0 := MK
  have MN_0 := MN
  have MT_0 := MT
  have NL_0 := NL
  have RKS_0 := RKS
  have RS_0 := RS
  have SC_0 := SC
  have TX_0 := TX
  have VA_0 := VA
  have VS_0 := VS
  have l_60 : ∀ (u2_60 : Int) (τ_60 : S0), (c_T τ_60) → (c_ag σ τ_60) → (τ_60.1 3 = σ.1 3) → (τ_60.1 4 = σ.1 4) → (τ_60.1 5 = σ.1 5) → (τ_60.1 6 = σ.1 6) → (τ_60.1 8 = σ.1 8) → (τ_60.1 10 = σ.1 10) → (τ_60.1 11 = σ.1 11) → (τ_60.1 15 = σ.1 15) → (τ_60.1 16 = σ.1 16) → (τ_60.1 21 = σ.1 21) → (τ_60.1 22 = σ.1 22) → (τ_60.1 23 = σ.1 23) → (τ_60.1 24 = σ.1 24) → (τ_60.1 25 = σ.1 25) → (τ_60.1 26 = σ.1 26) → (τ_60.1 27 = σ.1 27) → (τ_60.1 36 = σ.1 36) → (τ_60.1 37 = σ.1 37) → (τ_60.2.1 2 = σ.2.1 2) → (τ_60.2.1 3 = σ.2.1 3) → (τ_60.2.1 4 = σ.2.1 4) → (τ_60.2.1 5 = σ.2.1 5) → (τ_60.2.1 6 = σ.2.1 6) → (τ_60.2.1 8 = σ.2.1 8) → (τ_60.2.1 10 = σ.2.1 10) → (τ_60.2.1 11 = σ.2.1 11) → (τ_60.2.1 14 = σ.2.1 14) → (τ_60.2.1 15 = σ.2.1 15) → (τ_60.2.1 16 = σ.2.1 16) → (τ_60.2.1 18 = σ.2.1 18) → (τ_60.2.1 20 = σ.2.1 20) → (τ_60.2.1 23 = σ.2.1 23) → (τ_60.2.1 24 = σ.2.1 24) → (τ_60.2.1 25 = σ.2.1 25) → (τ_60.2.1 33 = σ.2.1 33) → (τ_60.2.1 34 = σ.2.1 34) → (τ_60.2.1 35 = σ.2.1 35) → (τ_60.2.1 36 = σ.2.1 36) → (τ_60.2.1 37 = σ.2.1 37) → (τ_60.2.1 44 = σ.2.1 44) → (τ_60.2.1 45 = σ.2.1 45) → (τ_60.2.1 49 = σ.2.1 49) → (τ_60.2.1 51 = σ.2.1 51) → (τ_60.2.1 54 = σ.2.1 54) → (u2_60 = (σ.1 7)) → (¬ (σ.1 37) = 3) → (1 ≤ (σ.1 36) ∧ ((σ.1 37) = 0 → 2 ≤ (σ.1 36))) → ((σ.1 37) = 2 → J_f (σ.1 7) (τ_60.1 13) (τ_60.1 14) (τ_60.2.1 13) (τ_60.2.1 14) (τ_60.2.1 15) (τ_60.2.1 16) (τ_60.2.1 27) (τ_60.2.1 28) (τ_60.2.1 29) (τ_60.2.1 30) (τ_60.2.1 31) (τ_60.2.1 32)) → ((τ_60.1 13) ≤ 60 * (σ.1 7) + 60 ∧ (¬ (σ.1 37) = 2 → (τ_60.1 13) = (σ.1 13))) → (∀ s : Int, τ_60.2.1 26 s ≤ (τ_60.1 12)) → ((τ_60.1 12) ≤ (σ.1 12) + 1 ∧ (τ_60.1 7) = (σ.1 7) ∧ (τ_60.1 9) = (σ.1 9)) → (τ_60.2.1 13 = σ.2.1 13) → (τ_60.2.1 9 = σ.2.1 9) → (τ_60.2.1 19 = σ.2.1 19) → (τ_60.2.1 22 = σ.2.1 22) → (j_eq (σ.2.1 36 (σ.1 15)) (σ.2.1 37) (τ_60.2.1 37)) → (5 ≤ (σ.1 35)) → P60 u2_60 τ_60 := by
    intro u2_60 τ_60 hT ag W3 W4 W5 W6 W8 W10 W11 W15 W16 W21 W22 W23 W24 W25 W26 W27 W36 W37 G2 G3 G4 G5 G6 G8 G10 G11 G14 G15 G16 G18 G20 G23 G24 G25 G33 G34 G35 G36 G37 G44 G45 G49 G51 G54 i60_1 i60_2 i60_3 i60_4 i60_5 i60_6 i60_7 i60_8 i60_9 i60_10 i60_11 i60_12 i60_13
    have A2 : ∀ j, 0 ≤ τ_60.2.1 2 j ∧ τ_60.2.1 2 j ≤ 65535 := fun j => hT.2 2 j
    have A3 : ∀ j, 0 ≤ τ_60.2.1 3 j ∧ τ_60.2.1 3 j ≤ 30000 := fun j => hT.2 3 j
    have A4 : ∀ j, (-1000) ≤ τ_60.2.1 4 j ∧ τ_60.2.1 4 j ≤ 1499 := fun j => hT.2 4 j
    have A5 : ∀ j, 0 ≤ τ_60.2.1 5 j ∧ τ_60.2.1 5 j ≤ 2500 := fun j => hT.2 5 j
    have A6 : ∀ j, 0 ≤ τ_60.2.1 6 j ∧ τ_60.2.1 6 j ≤ 2500 := fun j => hT.2 6 j
    have A8 : ∀ j, 0 ≤ τ_60.2.1 8 j ∧ τ_60.2.1 8 j ≤ 1 := fun j => hT.2 8 j
    have A9 : ∀ j, (-1) ≤ τ_60.2.1 9 j ∧ τ_60.2.1 9 j ≤ 1499 := fun j => hT.2 9 j
    have A10 : ∀ j, (-1) ≤ τ_60.2.1 10 j ∧ τ_60.2.1 10 j ≤ 99 := fun j => hT.2 10 j
    have A11 : ∀ j, 0 ≤ τ_60.2.1 11 j ∧ τ_60.2.1 11 j ≤ 999 := fun j => hT.2 11 j
    have A13 : ∀ j, 0 ≤ τ_60.2.1 13 j ∧ τ_60.2.1 13 j ≤ 4 := fun j => hT.2 13 j
    have A14 : ∀ j, 0 ≤ τ_60.2.1 14 j ∧ τ_60.2.1 14 j ≤ 30000 := fun j => hT.2 14 j
    have A15 : ∀ j, 0 ≤ τ_60.2.1 15 j ∧ τ_60.2.1 15 j ≤ 999 := fun j => hT.2 15 j
    have A16 : ∀ j, (-1) ≤ τ_60.2.1 16 j ∧ τ_60.2.1 16 j ≤ 1499 := fun j => hT.2 16 j
    have A18 : ∀ j, 0 ≤ τ_60.2.1 18 j ∧ τ_60.2.1 18 j ≤ 1 := fun j => hT.2 18 j
    have A19 : ∀ j, (-1) ≤ τ_60.2.1 19 j ∧ τ_60.2.1 19 j ≤ 1499 := fun j => hT.2 19 j
    have A20 : ∀ j, 0 ≤ τ_60.2.1 20 j ∧ τ_60.2.1 20 j ≤ 999 := fun j => hT.2 20 j
    have A22 : ∀ j, 0 ≤ τ_60.2.1 22 j ∧ τ_60.2.1 22 j ≤ 1499 := fun j => hT.2 22 j
    have A23 : ∀ j, 0 ≤ τ_60.2.1 23 j ∧ τ_60.2.1 23 j ≤ 999 := fun j => hT.2 23 j
    have A24 : ∀ j, 0 ≤ τ_60.2.1 24 j ∧ τ_60.2.1 24 j ≤ 999 := fun j => hT.2 24 j
    have A26 : ∀ j, (-2147483648) ≤ τ_60.2.1 26 j ∧ τ_60.2.1 26 j ≤ 2147483647 := fun j => hT.2 26 j
    have A27 : ∀ j, 0 ≤ τ_60.2.1 27 j ∧ τ_60.2.1 27 j ≤ 90000 := fun j => hT.2 27 j
    have A28 : ∀ j, 0 ≤ τ_60.2.1 28 j ∧ τ_60.2.1 28 j ≤ 60 := fun j => hT.2 28 j
    have A29 : ∀ j, 0 ≤ τ_60.2.1 29 j ∧ τ_60.2.1 29 j ≤ 1499 := fun j => hT.2 29 j
    have A30 : ∀ j, 0 ≤ τ_60.2.1 30 j ∧ τ_60.2.1 30 j ≤ 20000 := fun j => hT.2 30 j
    have A31 : ∀ j, 0 ≤ τ_60.2.1 31 j ∧ τ_60.2.1 31 j ≤ 20000 := fun j => hT.2 31 j
    have A32 : ∀ j, 0 ≤ τ_60.2.1 32 j ∧ τ_60.2.1 32 j ≤ 999999 := fun j => hT.2 32 j
    have A33 : ∀ j, 0 ≤ τ_60.2.1 33 j ∧ τ_60.2.1 33 j ≤ 20000 := fun j => hT.2 33 j
    have A34 : ∀ j, 0 ≤ τ_60.2.1 34 j ∧ τ_60.2.1 34 j ≤ 20000 := fun j => hT.2 34 j
    have A35 : ∀ j, 0 ≤ τ_60.2.1 35 j ∧ τ_60.2.1 35 j ≤ 1499 := fun j => hT.2 35 j
    have A36 : ∀ j, 0 ≤ τ_60.2.1 36 j ∧ τ_60.2.1 36 j ≤ 20000 := fun j => hT.2 36 j
    have A37 : ∀ j, 0 ≤ τ_60.2.1 37 j ∧ τ_60.2.1 37 j ≤ 19999 := fun j => hT.2 37 j
    have A44 : ∀ j, 0 ≤ τ_60.2.1 44 j ∧ τ_60.2.1 44 j ≤ 42000 := fun j => hT.2 44 j
    have A45 : ∀ j, 0 ≤ τ_60.2.1 45 j ∧ τ_60.2.1 45 j ≤ 1000 := fun j => hT.2 45 j
    have A49 : ∀ j, (-300) ≤ τ_60.2.1 49 j ∧ τ_60.2.1 49 j ≤ 67035 := fun j => hT.2 49 j
    have A51 : ∀ j, 0 ≤ τ_60.2.1 51 j ∧ τ_60.2.1 51 j ≤ 1499 := fun j => hT.2 51 j
    have A54 : ∀ j, 0 ≤ τ_60.2.1 54 j ∧ τ_60.2.1 54 j ≤ 999 := fun j => hT.2 54 j
    have v3 : 0 ≤ τ_60.1 3 ∧ τ_60.1 3 ≤ 2500 := hT.1 3
    have v4 : 0 ≤ τ_60.1 4 ∧ τ_60.1 4 ≤ 100 := hT.1 4
    have v5 : 0 ≤ τ_60.1 5 ∧ τ_60.1 5 ≤ 1000 := hT.1 5
    have v6 : 0 ≤ τ_60.1 6 ∧ τ_60.1 6 ≤ 30000 := hT.1 6
    have v7 : 0 ≤ τ_60.1 7 ∧ τ_60.1 7 ≤ 1500 := hT.1 7
    have v8 : 0 ≤ τ_60.1 8 ∧ τ_60.1 8 ≤ 1000 := hT.1 8
    have v9 : 0 ≤ τ_60.1 9 ∧ τ_60.1 9 ≤ 1500 := hT.1 9
    have v10 : 0 ≤ τ_60.1 10 ∧ τ_60.1 10 ≤ 1000 := hT.1 10
    have v11 : 0 ≤ τ_60.1 11 ∧ τ_60.1 11 ≤ 50 := hT.1 11
    have v12 : (-2147483648) ≤ τ_60.1 12 ∧ τ_60.1 12 ≤ 2147483647 := hT.1 12
    have v13 : 0 ≤ τ_60.1 13 ∧ τ_60.1 13 ≤ 90000 := hT.1 13
    have v14 : 0 ≤ τ_60.1 14 ∧ τ_60.1 14 ≤ 20000 := hT.1 14
    have v15 : 0 ≤ τ_60.1 15 ∧ τ_60.1 15 ≤ 20000 := hT.1 15
    have v16 : 0 ≤ τ_60.1 16 ∧ τ_60.1 16 ≤ 20000 := hT.1 16
    have v21 : 0 ≤ τ_60.1 21 ∧ τ_60.1 21 ≤ 20000 := hT.1 21
    have v22 : 0 ≤ τ_60.1 22 ∧ τ_60.1 22 ≤ 300 := hT.1 22
    have v23 : 0 ≤ τ_60.1 23 ∧ τ_60.1 23 ≤ 300 := hT.1 23
    have v24 : 0 ≤ τ_60.1 24 ∧ τ_60.1 24 ≤ 1499 := hT.1 24
    have v25 : 0 ≤ τ_60.1 25 ∧ τ_60.1 25 ≤ 3 := hT.1 25
    have v26 : 0 ≤ τ_60.1 26 ∧ τ_60.1 26 ≤ 5000010 := hT.1 26
    have v27 : 0 ≤ τ_60.1 27 ∧ τ_60.1 27 ≤ 1 := hT.1 27
    have v35 : 0 ≤ τ_60.1 35 ∧ τ_60.1 35 ≤ 7 := hT.1 35
    have v36 : 0 ≤ τ_60.1 36 ∧ τ_60.1 36 ≤ 1001 := hT.1 36
    have v37 : 0 ≤ τ_60.1 37 ∧ τ_60.1 37 ≤ 4 := hT.1 37
    have a13_7 : 0 ≤ τ_60.2.1 13 (τ_60.1 7) ∧ τ_60.2.1 13 (τ_60.1 7) ≤ 4 := hT.2 13 _
    have a14_7 : 0 ≤ τ_60.2.1 14 (τ_60.1 7) ∧ τ_60.2.1 14 (τ_60.1 7) ≤ 30000 := hT.2 14 _
    have a36_15 : 0 ≤ τ_60.2.1 36 (τ_60.1 15) ∧ τ_60.2.1 36 (τ_60.1 15) ≤ 20000 := hT.2 36 _
    have av7 : σ.1 7 ≤ τ_60.1 7 := ag.1 7 (by decide)
    have av13 : σ.1 13 ≤ τ_60.1 13 := ag.1 13 (by decide)
    have av14 : σ.1 14 ≤ τ_60.1 14 := ag.1 14 (by decide)
    have y36_15_τ_60 : τ_60.2.1 36 (τ_60.1 15) = σ.2.1 36 (σ.1 15) := by rw [G36, W15]
    have HT : J_ht (τ_60.1 3) (τ_60.2.1 2) (τ_60.2.1 3) (τ_60.2.1 5) (τ_60.2.1 6) := by rw [show (J_ht (τ_60.1 3) (τ_60.2.1 2) (τ_60.2.1 3) (τ_60.2.1 5) (τ_60.2.1 6)) = (J_ht (σ.1 3) (σ.2.1 2) (σ.2.1 3) (σ.2.1 5) (σ.2.1 6)) from by rw [W3, G2, G3, G5, G6]]; exact HT_0
    have NL : J_nl (τ_60.1 3) (τ_60.2.1 2) (τ_60.2.1 3) (τ_60.2.1 4) := by rw [show (J_nl (τ_60.1 3) (τ_60.2.1 2) (τ_60.2.1 3) (τ_60.2.1 4)) = (J_nl (σ.1 3) (σ.2.1 2) (σ.2.1 3) (σ.2.1 4)) from by rw [W3, G2, G3, G4]]; exact NL_0
    have VA : J_va (τ_60.1 8) 1000 (τ_60.2.1 18) (τ_60.2.1 20) := by rw [show (J_va (τ_60.1 8) 1000 (τ_60.2.1 18) (τ_60.2.1 20)) = (J_va (σ.1 8) 1000 (σ.2.1 18) (σ.2.1 20)) from by rw [W8, G18, G20]]; exact VA_0
    have MT : ∀ s : Int, τ_60.2.1 26 s ≤ (τ_60.1 12) := i60_6
    have VS : J_vs (τ_60.1 8) (τ_60.1 5) (τ_60.2.1 20) := by rw [show (J_vs (τ_60.1 8) (τ_60.1 5) (τ_60.2.1 20)) = (J_vs (σ.1 8) (σ.1 5) (σ.2.1 20)) from by rw [W5, W8, G20]]; exact VS_0
    have TX : J_vs (τ_60.1 6) (τ_60.1 5) (τ_60.2.1 15) := by rw [show (J_vs (τ_60.1 6) (τ_60.1 5) (τ_60.2.1 15)) = (J_vs (σ.1 6) (σ.1 5) (σ.2.1 15)) from by rw [W5, W6, G15]]; exact TX_0
    have RKS : J_rks (τ_60.1 5) (τ_60.1 4) (τ_60.2.1 10) (τ_60.2.1 11) := by rw [show (J_rks (τ_60.1 5) (τ_60.1 4) (τ_60.2.1 10) (τ_60.2.1 11)) = (J_rks (σ.1 5) (σ.1 4) (σ.2.1 10) (σ.2.1 11)) from by rw [W4, W5, G10, G11]]; exact RKS_0
    have BP : J_bp (τ_60.2.1 44) (τ_60.2.1 45) := by rw [show (J_bp (τ_60.2.1 44) (τ_60.2.1 45)) = (J_bp (σ.2.1 44) (σ.2.1 45)) from by rw [G44, G45]]; exact BP_0
    have CH : j_eq (σ.2.1 36 (σ.1 15)) (σ.2.1 37) (τ_60.2.1 37) := i60_12
    have f60 : ∀ k : Int, 2 ≤ k → σ.1 37 = 2 → J_f (σ.1 7) (τ_60.1 13) (τ_60.1 14) (st (τ_60.2.1 13) (σ.1 7) k) (τ_60.2.1 14) (τ_60.2.1 15) (τ_60.2.1 16) (τ_60.2.1 27) (τ_60.2.1 28) (τ_60.2.1 29) (τ_60.2.1 30) (τ_60.2.1 31) (τ_60.2.1 32) := fun k _ z => J_f_k (i60_4 z)
    refine h60 u2_60 τ_60 ?_
    refine ⟨_, K2_X3_add hT (show 0 ≤ (τ_60.1 37) from by (first | assumption | omega | (simp only [st_s] <;> omega) | fail)) (show (τ_60.1 37) ≤ 4 from by (first | assumption | omega | (simp only [st_s] <;> omega) | fail)) (show (τ_60.1 7) < 1500 from by (first | assumption | omega | (simp only [st_s] <;> omega) | fail)) (show (τ_60.1 37) = 0 → τ_60.2.1 14 (τ_60.1 7) < 29999 from by (intro z; rw [G14, show τ_60.1 7 = σ.1 7 from by omega]; omega)) (show J_ff (τ_60.1 5) (τ_60.1 7) (τ_60.2.1 9) (τ_60.2.1 13) (τ_60.2.1 14) (τ_60.2.1 15) from by (rw [i60_8, i60_9, G14, G15, W5, show τ_60.1 7 = σ.1 7 from by omega]; exact FF_0)), ?_⟩
    intro τ12 hn_τ12 hf_τ12 hq
    obtain ⟨hT, q10_1, q10_2, q10_3, q10_4⟩ := hq
    replace q10_1 : (τ12.1 7) = (τ_60.1 7) + 1 := q10_1
    replace q10_2 : τ12.2.1 13 = st (τ_60.2.1 13) (τ_60.1 7) (τ_60.1 37) := q10_2
    replace q10_3 : J_ff (τ12.1 5) (τ12.1 7) (τ12.2.1 9) (τ12.2.1 13) (τ12.2.1 14) (τ12.2.1 15) := q10_3
    replace q10_4 : c_ag τ_60 τ12 := q10_4
    replace ag : c_ag σ τ12 := ag_t ag q10_4 rfl
    have w3_τ12 : τ12.1 3 = τ_60.1 3 := hf_τ12.1 3 (by decide)
    have w4_τ12 : τ12.1 4 = τ_60.1 4 := hf_τ12.1 4 (by decide)
    have w5_τ12 : τ12.1 5 = τ_60.1 5 := hf_τ12.1 5 (by decide)
    have w6_τ12 : τ12.1 6 = τ_60.1 6 := hf_τ12.1 6 (by decide)
    have w8_τ12 : τ12.1 8 = τ_60.1 8 := hf_τ12.1 8 (by decide)
    have w9_τ12 : τ12.1 9 = τ_60.1 9 := hf_τ12.1 9 (by decide)
    have w10_τ12 : τ12.1 10 = τ_60.1 10 := hf_τ12.1 10 (by decide)
    have w11_τ12 : τ12.1 11 = τ_60.1 11 := hf_τ12.1 11 (by decide)
    have w12_τ12 : τ12.1 12 = τ_60.1 12 := hf_τ12.1 12 (by decide)
    have w13_τ12 : τ12.1 13 = τ_60.1 13 := hf_τ12.1 13 (by decide)
    have w14_τ12 : τ12.1 14 = τ_60.1 14 := hf_τ12.1 14 (by decide)
    have w15_τ12 : τ12.1 15 = τ_60.1 15 := hf_τ12.1 15 (by decide)
    have w16_τ12 : τ12.1 16 = τ_60.1 16 := hf_τ12.1 16 (by decide)
    have w21_τ12 : τ12.1 21 = τ_60.1 21 := hf_τ12.1 21 (by decide)
    have w22_τ12 : τ12.1 22 = τ_60.1 22 := hf_τ12.1 22 (by decide)
    have w23_τ12 : τ12.1 23 = τ_60.1 23 := hf_τ12.1 23 (by decide)
    have w24_τ12 : τ12.1 24 = τ_60.1 24 := hf_τ12.1 24 (by decide)
    have w25_τ12 : τ12.1 25 = τ_60.1 25 := hf_τ12.1 25 (by decide)
    have w26_τ12 : τ12.1 26 = τ_60.1 26 := hf_τ12.1 26 (by decide)
    have w27_τ12 : τ12.1 27 = τ_60.1 27 := hf_τ12.1 27 (by decide)
    have w35_τ12 : τ12.1 35 = τ_60.1 35 := hf_τ12.1 35 (by decide)
    have w36_τ12 : τ12.1 36 = τ_60.1 36 := hf_τ12.1 36 (by decide)
    have w37_τ12 : τ12.1 37 = τ_60.1 37 := hf_τ12.1 37 (by decide)
    have g2_τ12 : τ12.2.1 2 = τ_60.2.1 2 := hf_τ12.2.1 2 (by decide)
    have g3_τ12 : τ12.2.1 3 = τ_60.2.1 3 := hf_τ12.2.1 3 (by decide)
    have g4_τ12 : τ12.2.1 4 = τ_60.2.1 4 := hf_τ12.2.1 4 (by decide)
    have g5_τ12 : τ12.2.1 5 = τ_60.2.1 5 := hf_τ12.2.1 5 (by decide)
    have g6_τ12 : τ12.2.1 6 = τ_60.2.1 6 := hf_τ12.2.1 6 (by decide)
    have g8_τ12 : τ12.2.1 8 = τ_60.2.1 8 := hf_τ12.2.1 8 (by decide)
    have g10_τ12 : τ12.2.1 10 = τ_60.2.1 10 := hf_τ12.2.1 10 (by decide)
    have g11_τ12 : τ12.2.1 11 = τ_60.2.1 11 := hf_τ12.2.1 11 (by decide)
    have g14_τ12 : τ12.2.1 14 = τ_60.2.1 14 := hf_τ12.2.1 14 (by decide)
    have g15_τ12 : τ12.2.1 15 = τ_60.2.1 15 := hf_τ12.2.1 15 (by decide)
    have g16_τ12 : τ12.2.1 16 = τ_60.2.1 16 := hf_τ12.2.1 16 (by decide)
    have g18_τ12 : τ12.2.1 18 = τ_60.2.1 18 := hf_τ12.2.1 18 (by decide)
    have g19_τ12 : τ12.2.1 19 = τ_60.2.1 19 := hf_τ12.2.1 19 (by decide)
    have g20_τ12 : τ12.2.1 20 = τ_60.2.1 20 := hf_τ12.2.1 20 (by decide)
    have g22_τ12 : τ12.2.1 22 = τ_60.2.1 22 := hf_τ12.2.1 22 (by decide)
    have g23_τ12 : τ12.2.1 23 = τ_60.2.1 23 := hf_τ12.2.1 23 (by decide)
    have g24_τ12 : τ12.2.1 24 = τ_60.2.1 24 := hf_τ12.2.1 24 (by decide)
    have g25_τ12 : τ12.2.1 25 = τ_60.2.1 25 := hf_τ12.2.1 25 (by decide)
    have g26_τ12 : τ12.2.1 26 = τ_60.2.1 26 := hf_τ12.2.1 26 (by decide)
    have g27_τ12 : τ12.2.1 27 = τ_60.2.1 27 := hf_τ12.2.1 27 (by decide)
    have g28_τ12 : τ12.2.1 28 = τ_60.2.1 28 := hf_τ12.2.1 28 (by decide)
    have g29_τ12 : τ12.2.1 29 = τ_60.2.1 29 := hf_τ12.2.1 29 (by decide)
    have g30_τ12 : τ12.2.1 30 = τ_60.2.1 30 := hf_τ12.2.1 30 (by decide)
    have g31_τ12 : τ12.2.1 31 = τ_60.2.1 31 := hf_τ12.2.1 31 (by decide)
    have g32_τ12 : τ12.2.1 32 = τ_60.2.1 32 := hf_τ12.2.1 32 (by decide)
    have g33_τ12 : τ12.2.1 33 = τ_60.2.1 33 := hf_τ12.2.1 33 (by decide)
    have g34_τ12 : τ12.2.1 34 = τ_60.2.1 34 := hf_τ12.2.1 34 (by decide)
    have g35_τ12 : τ12.2.1 35 = τ_60.2.1 35 := hf_τ12.2.1 35 (by decide)
    have g36_τ12 : τ12.2.1 36 = τ_60.2.1 36 := hf_τ12.2.1 36 (by decide)
    have g37_τ12 : τ12.2.1 37 = τ_60.2.1 37 := hf_τ12.2.1 37 (by decide)
    have g44_τ12 : τ12.2.1 44 = τ_60.2.1 44 := hf_τ12.2.1 44 (by decide)
    have g45_τ12 : τ12.2.1 45 = τ_60.2.1 45 := hf_τ12.2.1 45 (by decide)
    have g49_τ12 : τ12.2.1 49 = τ_60.2.1 49 := hf_τ12.2.1 49 (by decide)
    have g51_τ12 : τ12.2.1 51 = τ_60.2.1 51 := hf_τ12.2.1 51 (by decide)
    have g54_τ12 : τ12.2.1 54 = τ_60.2.1 54 := hf_τ12.2.1 54 (by decide)
    have W3 : τ12.1 3 = σ.1 3 := by omega
    have W4 : τ12.1 4 = σ.1 4 := by omega
    have W5 : τ12.1 5 = σ.1 5 := by omega
    have W6 : τ12.1 6 = σ.1 6 := by omega
    have W8 : τ12.1 8 = σ.1 8 := by omega
    have W10 : τ12.1 10 = σ.1 10 := by omega
    have W11 : τ12.1 11 = σ.1 11 := by omega
    have W15 : τ12.1 15 = σ.1 15 := by omega
    have W16 : τ12.1 16 = σ.1 16 := by omega
    have W21 : τ12.1 21 = σ.1 21 := by omega
    have W22 : τ12.1 22 = σ.1 22 := by omega
    have W23 : τ12.1 23 = σ.1 23 := by omega
    have W24 : τ12.1 24 = σ.1 24 := by omega
    have W25 : τ12.1 25 = σ.1 25 := by omega
    have W26 : τ12.1 26 = σ.1 26 := by omega
    have W27 : τ12.1 27 = σ.1 27 := by omega
    have W36 : τ12.1 36 = σ.1 36 := by omega
    have W37 : τ12.1 37 = σ.1 37 := by omega
    have G2 : τ12.2.1 2 = σ.2.1 2 := (g2_τ12).trans G2
    have G3 : τ12.2.1 3 = σ.2.1 3 := (g3_τ12).trans G3
    have G4 : τ12.2.1 4 = σ.2.1 4 := (g4_τ12).trans G4
    have G5 : τ12.2.1 5 = σ.2.1 5 := (g5_τ12).trans G5
    have G6 : τ12.2.1 6 = σ.2.1 6 := (g6_τ12).trans G6
    have G8 : τ12.2.1 8 = σ.2.1 8 := (g8_τ12).trans G8
    have G10 : τ12.2.1 10 = σ.2.1 10 := (g10_τ12).trans G10
    have G11 : τ12.2.1 11 = σ.2.1 11 := (g11_τ12).trans G11
    have G14 : τ12.2.1 14 = σ.2.1 14 := (g14_τ12).trans G14
    have G15 : τ12.2.1 15 = σ.2.1 15 := (g15_τ12).trans G15
    have G16 : τ12.2.1 16 = σ.2.1 16 := (g16_τ12).trans G16
    have G18 : τ12.2.1 18 = σ.2.1 18 := (g18_τ12).trans G18
    have G20 : τ12.2.1 20 = σ.2.1 20 := (g20_τ12).trans G20
    have G23 : τ12.2.1 23 = σ.2.1 23 := (g23_τ12).trans G23
    have G24 : τ12.2.1 24 = σ.2.1 24 := (g24_τ12).trans G24
    have G25 : τ12.2.1 25 = σ.2.1 25 := (g25_τ12).trans G25
    have G33 : τ12.2.1 33 = σ.2.1 33 := (g33_τ12).trans G33
    have G34 : τ12.2.1 34 = σ.2.1 34 := (g34_τ12).trans G34
    have G35 : τ12.2.1 35 = σ.2.1 35 := (g35_τ12).trans G35
    have G36 : τ12.2.1 36 = σ.2.1 36 := (g36_τ12).trans G36
    have G37 : τ12.2.1 37 = σ.2.1 37 := (g37_τ12).trans G37
    have G44 : τ12.2.1 44 = σ.2.1 44 := (g44_τ12).trans G44
    have G45 : τ12.2.1 45 = σ.2.1 45 := (g45_τ12).trans G45
    have G49 : τ12.2.1 49 = σ.2.1 49 := (g49_τ12).trans G49
    have G51 : τ12.2.1 51 = σ.2.1 51 := (g51_τ12).trans G51
    have G54 : τ12.2.1 54 = σ.2.1 54 := (g54_τ12).trans G54
    have y36_15_τ12 : τ12.2.1 36 (τ12.1 15) = (τ_60.2.1 36) (τ_60.1 15) := by rw [g36_τ12, w15_τ12]
    have HT : J_ht (τ12.1 3) (τ12.2.1 2) (τ12.2.1 3) (τ12.2.1 5) (τ12.2.1 6) := by rw [show (J_ht (τ12.1 3) (τ12.2.1 2) (τ12.2.1 3) (τ12.2.1 5) (τ12.2.1 6)) = (J_ht (τ_60.1 3) (τ_60.2.1 2) (τ_60.2.1 3) (τ_60.2.1 5) (τ_60.2.1 6)) from by rw [w3_τ12, g2_τ12, g3_τ12, g5_τ12, g6_τ12]]; exact HT
    have NL : J_nl (τ12.1 3) (τ12.2.1 2) (τ12.2.1 3) (τ12.2.1 4) := by rw [show (J_nl (τ12.1 3) (τ12.2.1 2) (τ12.2.1 3) (τ12.2.1 4)) = (J_nl (τ_60.1 3) (τ_60.2.1 2) (τ_60.2.1 3) (τ_60.2.1 4)) from by rw [w3_τ12, g2_τ12, g3_τ12, g4_τ12]]; exact NL
    have VA : J_va (τ12.1 8) 1000 (τ12.2.1 18) (τ12.2.1 20) := by rw [show (J_va (τ12.1 8) 1000 (τ12.2.1 18) (τ12.2.1 20)) = (J_va (τ_60.1 8) 1000 (τ_60.2.1 18) (τ_60.2.1 20)) from by rw [w8_τ12, g18_τ12, g20_τ12]]; exact VA
    have FF : J_ff (τ12.1 5) (τ12.1 7) (τ12.2.1 9) (τ12.2.1 13) (τ12.2.1 14) (τ12.2.1 15) := q10_3
    have MT : ∀ s : Int, τ12.2.1 26 s ≤ (τ12.1 12) := by rw [show (∀ s : Int, τ12.2.1 26 s ≤ (τ12.1 12)) = (∀ s : Int, τ_60.2.1 26 s ≤ (τ_60.1 12)) from by rw [w12_τ12, g26_τ12]]; exact MT
    have VS : J_vs (τ12.1 8) (τ12.1 5) (τ12.2.1 20) := by rw [show (J_vs (τ12.1 8) (τ12.1 5) (τ12.2.1 20)) = (J_vs (τ_60.1 8) (τ_60.1 5) (τ_60.2.1 20)) from by rw [w5_τ12, w8_τ12, g20_τ12]]; exact VS
    have TX : J_vs (τ12.1 6) (τ12.1 5) (τ12.2.1 15) := by rw [show (J_vs (τ12.1 6) (τ12.1 5) (τ12.2.1 15)) = (J_vs (τ_60.1 6) (τ_60.1 5) (τ_60.2.1 15)) from by rw [w5_τ12, w6_τ12, g15_τ12]]; exact TX
    have RKS : J_rks (τ12.1 5) (τ12.1 4) (τ12.2.1 10) (τ12.2.1 11) := by rw [show (J_rks (τ12.1 5) (τ12.1 4) (τ12.2.1 10) (τ12.2.1 11)) = (J_rks (τ_60.1 5) (τ_60.1 4) (τ_60.2.1 10) (τ_60.2.1 11)) from by rw [w4_τ12, w5_τ12, g10_τ12, g11_τ12]]; exact RKS
    have BP : J_bp (τ12.2.1 44) (τ12.2.1 45) := by rw [show (J_bp (τ12.2.1 44) (τ12.2.1 45)) = (J_bp (τ_60.2.1 44) (τ_60.2.1 45)) from by rw [g44_τ12, g45_τ12]]; exact BP
    have CH : j_eq (σ.2.1 36 (σ.1 15)) (σ.2.1 37) (τ12.2.1 37) := by rw [show (j_eq (σ.2.1 36 (σ.1 15)) (σ.2.1 37) (τ12.2.1 37)) = (j_eq (σ.2.1 36 (σ.1 15)) (σ.2.1 37) (τ_60.2.1 37)) from by rw [g37_τ12]]; exact CH
    have A2 : ∀ j, 0 ≤ τ12.2.1 2 j ∧ τ12.2.1 2 j ≤ 65535 := fun j => hT.2 2 j
    have A3 : ∀ j, 0 ≤ τ12.2.1 3 j ∧ τ12.2.1 3 j ≤ 30000 := fun j => hT.2 3 j
    have A4 : ∀ j, (-1000) ≤ τ12.2.1 4 j ∧ τ12.2.1 4 j ≤ 1499 := fun j => hT.2 4 j
    have A5 : ∀ j, 0 ≤ τ12.2.1 5 j ∧ τ12.2.1 5 j ≤ 2500 := fun j => hT.2 5 j
    have A6 : ∀ j, 0 ≤ τ12.2.1 6 j ∧ τ12.2.1 6 j ≤ 2500 := fun j => hT.2 6 j
    have A8 : ∀ j, 0 ≤ τ12.2.1 8 j ∧ τ12.2.1 8 j ≤ 1 := fun j => hT.2 8 j
    have A9 : ∀ j, (-1) ≤ τ12.2.1 9 j ∧ τ12.2.1 9 j ≤ 1499 := fun j => hT.2 9 j
    have A10 : ∀ j, (-1) ≤ τ12.2.1 10 j ∧ τ12.2.1 10 j ≤ 99 := fun j => hT.2 10 j
    have A11 : ∀ j, 0 ≤ τ12.2.1 11 j ∧ τ12.2.1 11 j ≤ 999 := fun j => hT.2 11 j
    have A13 : ∀ j, 0 ≤ τ12.2.1 13 j ∧ τ12.2.1 13 j ≤ 4 := fun j => hT.2 13 j
    have A14 : ∀ j, 0 ≤ τ12.2.1 14 j ∧ τ12.2.1 14 j ≤ 30000 := fun j => hT.2 14 j
    have A15 : ∀ j, 0 ≤ τ12.2.1 15 j ∧ τ12.2.1 15 j ≤ 999 := fun j => hT.2 15 j
    have A16 : ∀ j, (-1) ≤ τ12.2.1 16 j ∧ τ12.2.1 16 j ≤ 1499 := fun j => hT.2 16 j
    have A18 : ∀ j, 0 ≤ τ12.2.1 18 j ∧ τ12.2.1 18 j ≤ 1 := fun j => hT.2 18 j
    have A19 : ∀ j, (-1) ≤ τ12.2.1 19 j ∧ τ12.2.1 19 j ≤ 1499 := fun j => hT.2 19 j
    have A20 : ∀ j, 0 ≤ τ12.2.1 20 j ∧ τ12.2.1 20 j ≤ 999 := fun j => hT.2 20 j
    have A22 : ∀ j, 0 ≤ τ12.2.1 22 j ∧ τ12.2.1 22 j ≤ 1499 := fun j => hT.2 22 j
    have A23 : ∀ j, 0 ≤ τ12.2.1 23 j ∧ τ12.2.1 23 j ≤ 999 := fun j => hT.2 23 j
    have A24 : ∀ j, 0 ≤ τ12.2.1 24 j ∧ τ12.2.1 24 j ≤ 999 := fun j => hT.2 24 j
    have A26 : ∀ j, (-2147483648) ≤ τ12.2.1 26 j ∧ τ12.2.1 26 j ≤ 2147483647 := fun j => hT.2 26 j
    have A27 : ∀ j, 0 ≤ τ12.2.1 27 j ∧ τ12.2.1 27 j ≤ 90000 := fun j => hT.2 27 j
    have A28 : ∀ j, 0 ≤ τ12.2.1 28 j ∧ τ12.2.1 28 j ≤ 60 := fun j => hT.2 28 j
    have A29 : ∀ j, 0 ≤ τ12.2.1 29 j ∧ τ12.2.1 29 j ≤ 1499 := fun j => hT.2 29 j
    have A30 : ∀ j, 0 ≤ τ12.2.1 30 j ∧ τ12.2.1 30 j ≤ 20000 := fun j => hT.2 30 j
    have A31 : ∀ j, 0 ≤ τ12.2.1 31 j ∧ τ12.2.1 31 j ≤ 20000 := fun j => hT.2 31 j
    have A32 : ∀ j, 0 ≤ τ12.2.1 32 j ∧ τ12.2.1 32 j ≤ 999999 := fun j => hT.2 32 j
    have A33 : ∀ j, 0 ≤ τ12.2.1 33 j ∧ τ12.2.1 33 j ≤ 20000 := fun j => hT.2 33 j
    have A34 : ∀ j, 0 ≤ τ12.2.1 34 j ∧ τ12.2.1 34 j ≤ 20000 := fun j => hT.2 34 j
    have A35 : ∀ j, 0 ≤ τ12.2.1 35 j ∧ τ12.2.1 35 j ≤ 1499 := fun j => hT.2 35 j
    have A36 : ∀ j, 0 ≤ τ12.2.1 36 j ∧ τ12.2.1 36 j ≤ 20000 := fun j => hT.2 36 j
    have A37 : ∀ j, 0 ≤ τ12.2.1 37 j ∧ τ12.2.1 37 j ≤ 19999 := fun j => hT.2 37 j
    have A44 : ∀ j, 0 ≤ τ12.2.1 44 j ∧ τ12.2.1 44 j ≤ 42000 := fun j => hT.2 44 j
    have A45 : ∀ j, 0 ≤ τ12.2.1 45 j ∧ τ12.2.1 45 j ≤ 1000 := fun j => hT.2 45 j
    have A49 : ∀ j, (-300) ≤ τ12.2.1 49 j ∧ τ12.2.1 49 j ≤ 67035 := fun j => hT.2 49 j
    have A51 : ∀ j, 0 ≤ τ12.2.1 51 j ∧ τ12.2.1 51 j ≤ 1499 := fun j => hT.2 51 j
    have A54 : ∀ j, 0 ≤ τ12.2.1 54 j ∧ τ12.2.1 54 j ≤ 999 := fun j => hT.2 54 j
    have v3 : 0 ≤ τ12.1 3 ∧ τ12.1 3 ≤ 2500 := hT.1 3
    have v4 : 0 ≤ τ12.1 4 ∧ τ12.1 4 ≤ 100 := hT.1 4
    have v5 : 0 ≤ τ12.1 5 ∧ τ12.1 5 ≤ 1000 := hT.1 5
    have v6 : 0 ≤ τ12.1 6 ∧ τ12.1 6 ≤ 30000 := hT.1 6
    have v7 : 0 ≤ τ12.1 7 ∧ τ12.1 7 ≤ 1500 := hT.1 7
    have v8 : 0 ≤ τ12.1 8 ∧ τ12.1 8 ≤ 1000 := hT.1 8
    have v9 : 0 ≤ τ12.1 9 ∧ τ12.1 9 ≤ 1500 := hT.1 9
    have v10 : 0 ≤ τ12.1 10 ∧ τ12.1 10 ≤ 1000 := hT.1 10
    have v11 : 0 ≤ τ12.1 11 ∧ τ12.1 11 ≤ 50 := hT.1 11
    have v12 : (-2147483648) ≤ τ12.1 12 ∧ τ12.1 12 ≤ 2147483647 := hT.1 12
    have v13 : 0 ≤ τ12.1 13 ∧ τ12.1 13 ≤ 90000 := hT.1 13
    have v14 : 0 ≤ τ12.1 14 ∧ τ12.1 14 ≤ 20000 := hT.1 14
    have v15 : 0 ≤ τ12.1 15 ∧ τ12.1 15 ≤ 20000 := hT.1 15
    have v16 : 0 ≤ τ12.1 16 ∧ τ12.1 16 ≤ 20000 := hT.1 16
    have v21 : 0 ≤ τ12.1 21 ∧ τ12.1 21 ≤ 20000 := hT.1 21
    have v22 : 0 ≤ τ12.1 22 ∧ τ12.1 22 ≤ 300 := hT.1 22
    have v23 : 0 ≤ τ12.1 23 ∧ τ12.1 23 ≤ 300 := hT.1 23
    have v24 : 0 ≤ τ12.1 24 ∧ τ12.1 24 ≤ 1499 := hT.1 24
    have v25 : 0 ≤ τ12.1 25 ∧ τ12.1 25 ≤ 3 := hT.1 25
    have v26 : 0 ≤ τ12.1 26 ∧ τ12.1 26 ≤ 5000010 := hT.1 26
    have v27 : 0 ≤ τ12.1 27 ∧ τ12.1 27 ≤ 1 := hT.1 27
    have v35 : 0 ≤ τ12.1 35 ∧ τ12.1 35 ≤ 7 := hT.1 35
    have v36 : 0 ≤ τ12.1 36 ∧ τ12.1 36 ≤ 1001 := hT.1 36
    have v37 : 0 ≤ τ12.1 37 ∧ τ12.1 37 ≤ 4 := hT.1 37
    have a13_7 : 0 ≤ τ12.2.1 13 (τ12.1 7) ∧ τ12.2.1 13 (τ12.1 7) ≤ 4 := hT.2 13 _
    have a14_7 : 0 ≤ τ12.2.1 14 (τ12.1 7) ∧ τ12.2.1 14 (τ12.1 7) ≤ 30000 := hT.2 14 _
    have a36_15 : 0 ≤ τ12.2.1 36 (τ12.1 15) ∧ τ12.2.1 36 (τ12.1 15) ≤ 20000 := hT.2 36 _
    have av7 : σ.1 7 ≤ τ12.1 7 := ag.1 7 (by decide)
    have av13 : σ.1 13 ≤ τ12.1 13 := ag.1 13 (by decide)
    have av14 : σ.1 14 ≤ τ12.1 14 := ag.1 14 (by decide)
    have agn := ag
    have kd12 : τ12.2.1 13 = st (σ.2.1 13) (σ.1 7) (σ.1 37) := by rw [q10_2, i60_8, show τ_60.1 7 = σ.1 7 from by omega, show τ_60.1 37 = σ.1 37 from by omega]
    have cjn := c_J_an CJ_0 hT0 ag (by rw [G10]; exact j_rr0 _ _) TX_0 CH (fun r s a b c => by rw [show r = s from by omega]; exact Int.le_refl _)
    have jtn := J_t_new (k := σ.1 37) (kd := σ.2.1 13) (rk := σ.2.1 10) (ipx (by omega)) SC_0 (by omega) (by omega) (by omega) (fun z => by omega) (uc (by omega) (by omega)) (by omega) t015
    have CJ : c_J τ12 := c_J_new cjn (by omega) (by rw [kd12, G14, G15, G16, G10, W6]; exact jtn) (fun z => by rw [kd12, st_s] at z; have w := f60 2 (by omega) (by omega); rw [show τ12.2.1 13 = st (τ_60.2.1 13) (σ.1 7) 2 from by rw [kd12, i60_8]; rw [show σ.1 37 = 2 from by omega], w13_τ12, w14_τ12, g14_τ12, g15_τ12, g16_τ12, g27_τ12, g28_τ12, g29_τ12, g30_τ12, g31_τ12, g32_τ12]; exact w) (fun z => by rw [kd12, st_s] at z; exfalso; omega)
    have scn := c_S_n SC_0 CJ_0 hT0 ag (by rw [g22_τ12]; exact i60_11) (by rw [g19_τ12]; exact i60_10)
    have ip12 : J_ip (σ.1 7) (τ12.1 6) (τ12.2.1 13 (σ.1 7)) (τ12.2.1 14) (τ12.2.1 15) (τ12.2.1 16) (τ12.2.1 19) := by rw [kd12, st_s, G14, G15, G16, W6, g19_τ12, i60_10]; exact ipx (by omega)
    have SCa : σ.1 37 = 2 → c_S τ12 := fun z => by have w := J_sc_x (n' := σ.1 7 + 1) scn (J_te_k (σ.1 7) (τ12.1 6) 2 (τ12.2.1 13) (τ12.2.1 14) (τ12.2.1 15) (τ12.2.1 16)) (fun i i0 i1 => (cjn.1 i i0 i1).1) (fun m => (hT.2 22 m).1) (by omega); have e : st (τ12.2.1 13) (σ.1 7) 2 = τ12.2.1 13 := by rw [kd12]; funext j; by_cases y : j = σ.1 7; (rw [y, st_s, st_s]; omega); (rw [st_n _ _ y]); rw [e, show σ.1 7 + 1 = τ12.1 7 from by omega, show σ.1 9 = τ12.1 9 from by omega] at w; exact w
    refine ⟨fun c13 => ?_, fun c13 => ?_⟩
    ·
      refine h87 _ ?_
      replace ag := ag_v (i := 35) (x := 0) ag (Or.inl rfl)
      replace hT := cT_v (i := 35) hT (show (0 : Int) ≤ 0 ∧ 0 ≤ 7 from by (first | assumption | omega | (simp only [st_s] <;> omega) | fail))
      exact ⟨hT, (show 0 ≤ 0 ∧ 0 ≤ 19 from by (first | assumption | omega | (simp only [st_s] <;> omega) | fail)), (show J_ht (τ12.1 3) (τ12.2.1 2) (τ12.2.1 3) (τ12.2.1 5) (τ12.2.1 6) from HT), (show J_mn (τ12.1 3) (τ12.1 5) ((τ12.1 7) + 1) (τ12.2.1 4) from by (first | assumption | omega | (simp only [st_s] <;> omega) | fail)), (show J_rks (τ12.1 5) (τ12.1 4) (τ12.2.1 10) (τ12.2.1 11) from RKS), (show J_vs (τ12.1 8) (τ12.1 5) (τ12.2.1 20) from VS), (show J_vs (τ12.1 6) (τ12.1 5) (τ12.2.1 15) from TX), (show J_va (τ12.1 8) 1000 (τ12.2.1 18) (τ12.2.1 20) from VA), (show J_mk (τ12.1 11) (τ12.1 8) (τ12.1 9) (τ12.1 10) (τ12.2.1 25) from by (first | assumption | omega | (simp only [st_s] <;> omega) | fail)), (show J_sc (τ12.1 7) (τ12.1 9) (τ12.2.1 13) (τ12.2.1 14) (τ12.2.1 15) (τ12.2.1 16) (τ12.2.1 22) (τ12.2.1 19) from by (first | exact SC | exact SCa (by omega) | fail)), (show J_ff (τ12.1 5) (τ12.1 7) (τ12.2.1 9) (τ12.2.1 13) (τ12.2.1 14) (τ12.2.1 15) from FF), (show ∀ s : Int, τ12.2.1 26 s ≤ (τ12.1 12) from MT), (show J_all (τ12.1 7) (τ12.1 6) (τ12.1 13) (τ12.1 14) (τ12.1 15) (τ12.2.1 13) (τ12.2.1 14) (τ12.2.1 15) (τ12.2.1 16) (τ12.2.1 10) (τ12.2.1 27) (τ12.2.1 28) (τ12.2.1 29) (τ12.2.1 30) (τ12.2.1 31) (τ12.2.1 32) (τ12.2.1 33) (τ12.2.1 34) (τ12.2.1 35) (τ12.2.1 36) (τ12.2.1 37) from CJ), (show J_bp (τ12.2.1 44) (τ12.2.1 45) from BP), (show J_nl (τ12.1 3) (τ12.2.1 2) (τ12.2.1 3) (τ12.2.1 4) from NL), (show 0 = 0 → J_rs ((0 : Int)) (τ12.1 7) (τ12.1 6) (τ12.1 36) (τ12.1 37) (τ12.1 5) (τ12.1 8) (τ12.2.1 14) from by (first | (intro z; exfalso; omega) | (intro z; unfold J_rs; rw [G14]; first | rw [show τ16.1 7 = σ.1 7 + 1 from by omega] | rw [show τ12.1 7 = σ.1 7 + 1 from by omega]; omega) | fail)), (show 0 = 0 → 5 ≤ ((0 : Int)) → 1 ≤ (τ12.1 36) → 0 ≤ τ12.2.1 10 (τ12.2.1 15 (τ12.2.1 14 (τ12.1 7))) from by (first | (intro z; exfalso; omega) | (intro z y; exfalso; omega) | exact fun _ => uc | (intro z y y2; exact uc (by omega) (by omega)) | (intro z y y2; exfalso; omega) | (intro z y y2; rw [G10, G14, G15, W7]; exact uc (by omega) (by omega)) | fail)), (show 0 = 0 → ((0 : Int)) = 4 → j_in (τ12.1 36) 1000 (τ12.2.1 54) from by (first | (intro z; exfalso; omega) | (intro z y; exfalso; omega) | exact fun _ => dj | fail)), (show 0 = 0 → 5 ≤ ((0 : Int)) → J_ip (τ12.1 7) (τ12.1 6) (τ12.1 37) (τ12.2.1 14) (τ12.2.1 15) (τ12.2.1 16) (τ12.2.1 19) from by (first | (intro z; exfalso; omega) | (intro z y; exfalso; omega) | exact fun _ => ipx | (intro z y; exact ipx (by omega)) | (intro z y; rw [W7, W6, W37, G14, G15, G16, G19]; exact ipx (by omega)) | fail)), (show 0 = 0 → (((0 : Int)) ≤ 5 → (τ12.1 13) ≤ 60 * (τ12.1 7)) ∧ (τ12.1 13) ≤ 60 * (τ12.1 7) + 60 from by (intro z; omega)), (show 0 = 0 → 6 ≤ ((0 : Int)) → (τ12.1 24) = (τ12.1 7) ∧ J_f (τ12.1 7) (τ12.1 13) (τ12.1 14) (τ12.2.1 13) (τ12.2.1 14) (τ12.2.1 15) (τ12.2.1 16) (τ12.2.1 27) (τ12.2.1 28) (τ12.2.1 29) (τ12.2.1 30) (τ12.2.1 31) (τ12.2.1 32) from by (first | (intro z; exfalso; omega) | (intro z y; exfalso; omega) | exact fun _ => frx | (intro z y; exact frx (by omega)) | (intro z y; have w := frx (by omega); rw [W7, W13, W14, W24, G13, G14, G15, G16, G27, G28, G29, G30, G31, G32]; exact w) | fail)), (show 0 = 0 → 6 ≤ ((0 : Int)) → J_sp (τ12.1 24) (τ12.1 21) (τ12.1 23) (τ12.1 22) (τ12.2.1 49) (τ12.2.1 51) ∧ ((τ12.1 16) + (τ12.1 21) ≤ 20000) ∧ (¬ (τ12.1 27) = 0 → 1 ≤ (τ12.1 21) ∧ 0 ≤ τ12.2.1 49 ((τ12.1 21) - 1) ∧ τ12.2.1 49 ((τ12.1 21) - 1) < 65536) ∧ ((τ12.1 26) ≤ 1000000) ∧ ((τ12.1 25) ≤ 2 → (τ12.1 27) = 0) from by (first | (intro z; exfalso; omega) | (intro z y; exfalso; omega) | exact fun _ => spx | (intro z y; exact spx (by omega)) | fail)), (show 0 = 0 → (τ12.1 15) ≤ (τ12.1 16) ∧ τ12.2.1 36 (τ12.1 15) ≤ (τ12.1 16) from by (intro z; first | exact sux | omega)), (show 0 = 0 → (τ12.1 9) ≤ (τ12.1 7) from by (intro z; omega)), (show j_rr ((σ.1 5)) (σ.2.1 10) (τ12.2.1 10) from by (first | exact j_rr0 _ _ | (rw [G10]; exact j_rr0 _ _) | fail)), (show j_eq (σ.2.1 36 (σ.1 15)) (σ.2.1 37) (τ12.2.1 37) from CH), (show (τ12.1 12) ≤ (σ.1 12) + 1 from by (first | assumption | omega | (simp only [st_s] <;> omega) | fail)), (show c_Y σ (s_v τ12 35 0) from by (first | exact c_Y0 _ | exact c_Y_g W4 G11 G20 G22 G25 | exact c_Y_g (by omega) G11 G20 (by rw [g22_τ7]) G25 | exact c_Y_g (by omega) G11 G20 (by rw [g22_τ12]; exact i60_11) G25 | exact ⟨⟨by rw [G20]; exact j_eq0 _ _, by rw [q14_2, g22_τ12, i60_11]; exact j_eqs (j_eq0 _ _) (by omega), by rw [G11]; exact j_eq0 _ _, by omega⟩, by rw [G25], by rw [G25], by rw [G25]⟩ | fail)), ag⟩
    ·
      refine ⟨_, K2_X9_addHypothesis hT (show 0 ≤ u2_60 from by (first | assumption | omega | (simp only [st_s] <;> omega) | fail)) (show u2_60 < 1500 from by (first | assumption | omega | (simp only [st_s] <;> omega) | fail)) (show (τ12.1 9) < 1500 from by (first | assumption | omega | (simp only [st_s] <;> omega) | fail)) (show τ12.2.1 13 u2_60 = 0 → τ12.2.1 14 u2_60 < 29999 from by (intro z; rw [G14]; omega)) (show J_mk (τ12.1 11) (τ12.1 8) (τ12.1 9) (τ12.1 10) (τ12.2.1 25) from by exact MK) (show J_sc u2_60 (τ12.1 9) (τ12.2.1 13) (τ12.2.1 14) (τ12.2.1 15) (τ12.2.1 16) (τ12.2.1 22) (τ12.2.1 19) from by (rw [show τ12.1 9 = σ.1 9 from by omega, show u2_60 = σ.1 7 from by omega]; exact scn)) (show J_ip u2_60 (τ12.1 6) (τ12.2.1 13 u2_60) (τ12.2.1 14) (τ12.2.1 15) (τ12.2.1 16) (τ12.2.1 19) from by (rw [show u2_60 = σ.1 7 from by omega]; exact ip12)) (show (τ12.1 7) = u2_60 + 1 from by omega) (show τ12.2.1 14 (u2_60 + 1) = (τ12.1 6) from by (rw [G14, show u2_60 = σ.1 7 from by omega, W6]; exact an14)) (show τ12.2.1 13 u2_60 ≤ 1 from by (rw [kd12, show u2_60 = σ.1 7 from by omega, st_s]; omega)), ?_⟩
      intro τ16 hn_τ16 hf_τ16 hq
      obtain ⟨hT, q14_1, q14_2, q14_3, q14_4⟩ := hq
      replace q14_1 : (τ16.1 9) = (τ12.1 9) + 1 := q14_1
      replace q14_2 : τ16.2.1 22 = st (τ12.2.1 22) (τ12.1 9) u2_60 := q14_2
      replace q14_3 : J_mk (τ16.1 11) (τ16.1 8) (τ16.1 9) (τ16.1 10) (τ16.2.1 25) := q14_3
      replace q14_4 : J_sc (τ16.1 7) (τ16.1 9) (τ16.2.1 13) (τ16.2.1 14) (τ16.2.1 15) (τ16.2.1 16) (τ16.2.1 22) (τ16.2.1 19) := q14_4
      replace ag : c_ag σ τ16 := ag_r ag hf_τ16 rfl rfl
      have w3_τ16 : τ16.1 3 = τ12.1 3 := hf_τ16.1 3 (by decide)
      have w4_τ16 : τ16.1 4 = τ12.1 4 := hf_τ16.1 4 (by decide)
      have w5_τ16 : τ16.1 5 = τ12.1 5 := hf_τ16.1 5 (by decide)
      have w6_τ16 : τ16.1 6 = τ12.1 6 := hf_τ16.1 6 (by decide)
      have w7_τ16 : τ16.1 7 = τ12.1 7 := hf_τ16.1 7 (by decide)
      have w8_τ16 : τ16.1 8 = τ12.1 8 := hf_τ16.1 8 (by decide)
      have w10_τ16 : τ16.1 10 = τ12.1 10 := hf_τ16.1 10 (by decide)
      have w11_τ16 : τ16.1 11 = τ12.1 11 := hf_τ16.1 11 (by decide)
      have w12_τ16 : τ16.1 12 = τ12.1 12 := hf_τ16.1 12 (by decide)
      have w13_τ16 : τ16.1 13 = τ12.1 13 := hf_τ16.1 13 (by decide)
      have w14_τ16 : τ16.1 14 = τ12.1 14 := hf_τ16.1 14 (by decide)
      have w15_τ16 : τ16.1 15 = τ12.1 15 := hf_τ16.1 15 (by decide)
      have w16_τ16 : τ16.1 16 = τ12.1 16 := hf_τ16.1 16 (by decide)
      have w21_τ16 : τ16.1 21 = τ12.1 21 := hf_τ16.1 21 (by decide)
      have w22_τ16 : τ16.1 22 = τ12.1 22 := hf_τ16.1 22 (by decide)
      have w23_τ16 : τ16.1 23 = τ12.1 23 := hf_τ16.1 23 (by decide)
      have w24_τ16 : τ16.1 24 = τ12.1 24 := hf_τ16.1 24 (by decide)
      have w25_τ16 : τ16.1 25 = τ12.1 25 := hf_τ16.1 25 (by decide)
      have w26_τ16 : τ16.1 26 = τ12.1 26 := hf_τ16.1 26 (by decide)
      have w27_τ16 : τ16.1 27 = τ12.1 27 := hf_τ16.1 27 (by decide)
      have w35_τ16 : τ16.1 35 = τ12.1 35 := hf_τ16.1 35 (by decide)
      have w36_τ16 : τ16.1 36 = τ12.1 36 := hf_τ16.1 36 (by decide)
      have w37_τ16 : τ16.1 37 = τ12.1 37 := hf_τ16.1 37 (by decide)
      have g2_τ16 : τ16.2.1 2 = τ12.2.1 2 := hf_τ16.2.1 2 (by decide)
      have g3_τ16 : τ16.2.1 3 = τ12.2.1 3 := hf_τ16.2.1 3 (by decide)
      have g4_τ16 : τ16.2.1 4 = τ12.2.1 4 := hf_τ16.2.1 4 (by decide)
      have g5_τ16 : τ16.2.1 5 = τ12.2.1 5 := hf_τ16.2.1 5 (by decide)
      have g6_τ16 : τ16.2.1 6 = τ12.2.1 6 := hf_τ16.2.1 6 (by decide)
      have g8_τ16 : τ16.2.1 8 = τ12.2.1 8 := hf_τ16.2.1 8 (by decide)
      have g9_τ16 : τ16.2.1 9 = τ12.2.1 9 := hf_τ16.2.1 9 (by decide)
      have g10_τ16 : τ16.2.1 10 = τ12.2.1 10 := hf_τ16.2.1 10 (by decide)
      have g11_τ16 : τ16.2.1 11 = τ12.2.1 11 := hf_τ16.2.1 11 (by decide)
      have g13_τ16 : τ16.2.1 13 = τ12.2.1 13 := hf_τ16.2.1 13 (by decide)
      have g14_τ16 : τ16.2.1 14 = τ12.2.1 14 := hf_τ16.2.1 14 (by decide)
      have g15_τ16 : τ16.2.1 15 = τ12.2.1 15 := hf_τ16.2.1 15 (by decide)
      have g16_τ16 : τ16.2.1 16 = τ12.2.1 16 := hf_τ16.2.1 16 (by decide)
      have g18_τ16 : τ16.2.1 18 = τ12.2.1 18 := hf_τ16.2.1 18 (by decide)
      have g20_τ16 : τ16.2.1 20 = τ12.2.1 20 := hf_τ16.2.1 20 (by decide)
      have g23_τ16 : τ16.2.1 23 = τ12.2.1 23 := hf_τ16.2.1 23 (by decide)
      have g24_τ16 : τ16.2.1 24 = τ12.2.1 24 := hf_τ16.2.1 24 (by decide)
      have g25_τ16 : τ16.2.1 25 = τ12.2.1 25 := hf_τ16.2.1 25 (by decide)
      have g26_τ16 : τ16.2.1 26 = τ12.2.1 26 := hf_τ16.2.1 26 (by decide)
      have g27_τ16 : τ16.2.1 27 = τ12.2.1 27 := hf_τ16.2.1 27 (by decide)
      have g28_τ16 : τ16.2.1 28 = τ12.2.1 28 := hf_τ16.2.1 28 (by decide)
      have g29_τ16 : τ16.2.1 29 = τ12.2.1 29 := hf_τ16.2.1 29 (by decide)
      have g30_τ16 : τ16.2.1 30 = τ12.2.1 30 := hf_τ16.2.1 30 (by decide)
      have g31_τ16 : τ16.2.1 31 = τ12.2.1 31 := hf_τ16.2.1 31 (by decide)
      have g32_τ16 : τ16.2.1 32 = τ12.2.1 32 := hf_τ16.2.1 32 (by decide)
      have g33_τ16 : τ16.2.1 33 = τ12.2.1 33 := hf_τ16.2.1 33 (by decide)
      have g34_τ16 : τ16.2.1 34 = τ12.2.1 34 := hf_τ16.2.1 34 (by decide)
      have g35_τ16 : τ16.2.1 35 = τ12.2.1 35 := hf_τ16.2.1 35 (by decide)
      have g36_τ16 : τ16.2.1 36 = τ12.2.1 36 := hf_τ16.2.1 36 (by decide)
      have g37_τ16 : τ16.2.1 37 = τ12.2.1 37 := hf_τ16.2.1 37 (by decide)
      have g44_τ16 : τ16.2.1 44 = τ12.2.1 44 := hf_τ16.2.1 44 (by decide)
      have g45_τ16 : τ16.2.1 45 = τ12.2.1 45 := hf_τ16.2.1 45 (by decide)
      have g49_τ16 : τ16.2.1 49 = τ12.2.1 49 := hf_τ16.2.1 49 (by decide)
      have g51_τ16 : τ16.2.1 51 = τ12.2.1 51 := hf_τ16.2.1 51 (by decide)
      have g54_τ16 : τ16.2.1 54 = τ12.2.1 54 := hf_τ16.2.1 54 (by decide)
      have W3 : τ16.1 3 = σ.1 3 := by omega
      have W4 : τ16.1 4 = σ.1 4 := by omega
      have W5 : τ16.1 5 = σ.1 5 := by omega
      have W6 : τ16.1 6 = σ.1 6 := by omega
      have W8 : τ16.1 8 = σ.1 8 := by omega
      have W10 : τ16.1 10 = σ.1 10 := by omega
      have W11 : τ16.1 11 = σ.1 11 := by omega
      have W15 : τ16.1 15 = σ.1 15 := by omega
      have W16 : τ16.1 16 = σ.1 16 := by omega
      have W21 : τ16.1 21 = σ.1 21 := by omega
      have W22 : τ16.1 22 = σ.1 22 := by omega
      have W23 : τ16.1 23 = σ.1 23 := by omega
      have W24 : τ16.1 24 = σ.1 24 := by omega
      have W25 : τ16.1 25 = σ.1 25 := by omega
      have W26 : τ16.1 26 = σ.1 26 := by omega
      have W27 : τ16.1 27 = σ.1 27 := by omega
      have W36 : τ16.1 36 = σ.1 36 := by omega
      have W37 : τ16.1 37 = σ.1 37 := by omega
      have G2 : τ16.2.1 2 = σ.2.1 2 := (g2_τ16).trans G2
      have G3 : τ16.2.1 3 = σ.2.1 3 := (g3_τ16).trans G3
      have G4 : τ16.2.1 4 = σ.2.1 4 := (g4_τ16).trans G4
      have G5 : τ16.2.1 5 = σ.2.1 5 := (g5_τ16).trans G5
      have G6 : τ16.2.1 6 = σ.2.1 6 := (g6_τ16).trans G6
      have G8 : τ16.2.1 8 = σ.2.1 8 := (g8_τ16).trans G8
      have G10 : τ16.2.1 10 = σ.2.1 10 := (g10_τ16).trans G10
      have G11 : τ16.2.1 11 = σ.2.1 11 := (g11_τ16).trans G11
      have G14 : τ16.2.1 14 = σ.2.1 14 := (g14_τ16).trans G14
      have G15 : τ16.2.1 15 = σ.2.1 15 := (g15_τ16).trans G15
      have G16 : τ16.2.1 16 = σ.2.1 16 := (g16_τ16).trans G16
      have G18 : τ16.2.1 18 = σ.2.1 18 := (g18_τ16).trans G18
      have G20 : τ16.2.1 20 = σ.2.1 20 := (g20_τ16).trans G20
      have G23 : τ16.2.1 23 = σ.2.1 23 := (g23_τ16).trans G23
      have G24 : τ16.2.1 24 = σ.2.1 24 := (g24_τ16).trans G24
      have G25 : τ16.2.1 25 = σ.2.1 25 := (g25_τ16).trans G25
      have G33 : τ16.2.1 33 = σ.2.1 33 := (g33_τ16).trans G33
      have G34 : τ16.2.1 34 = σ.2.1 34 := (g34_τ16).trans G34
      have G35 : τ16.2.1 35 = σ.2.1 35 := (g35_τ16).trans G35
      have G36 : τ16.2.1 36 = σ.2.1 36 := (g36_τ16).trans G36
      have G37 : τ16.2.1 37 = σ.2.1 37 := (g37_τ16).trans G37
      have G44 : τ16.2.1 44 = σ.2.1 44 := (g44_τ16).trans G44
      have G45 : τ16.2.1 45 = σ.2.1 45 := (g45_τ16).trans G45
      have G49 : τ16.2.1 49 = σ.2.1 49 := (g49_τ16).trans G49
      have G51 : τ16.2.1 51 = σ.2.1 51 := (g51_τ16).trans G51
      have G54 : τ16.2.1 54 = σ.2.1 54 := (g54_τ16).trans G54
      have y13_7_τ16 : τ16.2.1 13 (τ16.1 7) = (τ12.2.1 13) (τ12.1 7) := by rw [g13_τ16, w7_τ16]
      have y14_7_τ16 : τ16.2.1 14 (τ16.1 7) = (τ12.2.1 14) (τ12.1 7) := by rw [g14_τ16, w7_τ16]
      have y36_15_τ16 : τ16.2.1 36 (τ16.1 15) = (τ12.2.1 36) (τ12.1 15) := by rw [g36_τ16, w15_τ16]
      have HT : J_ht (τ16.1 3) (τ16.2.1 2) (τ16.2.1 3) (τ16.2.1 5) (τ16.2.1 6) := by rw [show (J_ht (τ16.1 3) (τ16.2.1 2) (τ16.2.1 3) (τ16.2.1 5) (τ16.2.1 6)) = (J_ht (τ12.1 3) (τ12.2.1 2) (τ12.2.1 3) (τ12.2.1 5) (τ12.2.1 6)) from by rw [w3_τ16, g2_τ16, g3_τ16, g5_τ16, g6_τ16]]; exact HT
      have NL : J_nl (τ16.1 3) (τ16.2.1 2) (τ16.2.1 3) (τ16.2.1 4) := by rw [show (J_nl (τ16.1 3) (τ16.2.1 2) (τ16.2.1 3) (τ16.2.1 4)) = (J_nl (τ12.1 3) (τ12.2.1 2) (τ12.2.1 3) (τ12.2.1 4)) from by rw [w3_τ16, g2_τ16, g3_τ16, g4_τ16]]; exact NL
      have VA : J_va (τ16.1 8) 1000 (τ16.2.1 18) (τ16.2.1 20) := by rw [show (J_va (τ16.1 8) 1000 (τ16.2.1 18) (τ16.2.1 20)) = (J_va (τ12.1 8) 1000 (τ12.2.1 18) (τ12.2.1 20)) from by rw [w8_τ16, g18_τ16, g20_τ16]]; exact VA
      have SC : J_sc (τ16.1 7) (τ16.1 9) (τ16.2.1 13) (τ16.2.1 14) (τ16.2.1 15) (τ16.2.1 16) (τ16.2.1 22) (τ16.2.1 19) := q14_4
      have MK : J_mk (τ16.1 11) (τ16.1 8) (τ16.1 9) (τ16.1 10) (τ16.2.1 25) := q14_3
      have FF : J_ff (τ16.1 5) (τ16.1 7) (τ16.2.1 9) (τ16.2.1 13) (τ16.2.1 14) (τ16.2.1 15) := by rw [show (J_ff (τ16.1 5) (τ16.1 7) (τ16.2.1 9) (τ16.2.1 13) (τ16.2.1 14) (τ16.2.1 15)) = (J_ff (τ12.1 5) (τ12.1 7) (τ12.2.1 9) (τ12.2.1 13) (τ12.2.1 14) (τ12.2.1 15)) from by rw [w5_τ16, w7_τ16, g9_τ16, g13_τ16, g14_τ16, g15_τ16]]; exact FF
      have MT : ∀ s : Int, τ16.2.1 26 s ≤ (τ16.1 12) := by rw [show (∀ s : Int, τ16.2.1 26 s ≤ (τ16.1 12)) = (∀ s : Int, τ12.2.1 26 s ≤ (τ12.1 12)) from by rw [w12_τ16, g26_τ16]]; exact MT
      have VS : J_vs (τ16.1 8) (τ16.1 5) (τ16.2.1 20) := by rw [show (J_vs (τ16.1 8) (τ16.1 5) (τ16.2.1 20)) = (J_vs (τ12.1 8) (τ12.1 5) (τ12.2.1 20)) from by rw [w5_τ16, w8_τ16, g20_τ16]]; exact VS
      have TX : J_vs (τ16.1 6) (τ16.1 5) (τ16.2.1 15) := by rw [show (J_vs (τ16.1 6) (τ16.1 5) (τ16.2.1 15)) = (J_vs (τ12.1 6) (τ12.1 5) (τ12.2.1 15)) from by rw [w5_τ16, w6_τ16, g15_τ16]]; exact TX
      have RKS : J_rks (τ16.1 5) (τ16.1 4) (τ16.2.1 10) (τ16.2.1 11) := by rw [show (J_rks (τ16.1 5) (τ16.1 4) (τ16.2.1 10) (τ16.2.1 11)) = (J_rks (τ12.1 5) (τ12.1 4) (τ12.2.1 10) (τ12.2.1 11)) from by rw [w4_τ16, w5_τ16, g10_τ16, g11_τ16]]; exact RKS
      have CJ : J_all (τ16.1 7) (τ16.1 6) (τ16.1 13) (τ16.1 14) (τ16.1 15) (τ16.2.1 13) (τ16.2.1 14) (τ16.2.1 15) (τ16.2.1 16) (τ16.2.1 10) (τ16.2.1 27) (τ16.2.1 28) (τ16.2.1 29) (τ16.2.1 30) (τ16.2.1 31) (τ16.2.1 32) (τ16.2.1 33) (τ16.2.1 34) (τ16.2.1 35) (τ16.2.1 36) (τ16.2.1 37) := by rw [show (J_all (τ16.1 7) (τ16.1 6) (τ16.1 13) (τ16.1 14) (τ16.1 15) (τ16.2.1 13) (τ16.2.1 14) (τ16.2.1 15) (τ16.2.1 16) (τ16.2.1 10) (τ16.2.1 27) (τ16.2.1 28) (τ16.2.1 29) (τ16.2.1 30) (τ16.2.1 31) (τ16.2.1 32) (τ16.2.1 33) (τ16.2.1 34) (τ16.2.1 35) (τ16.2.1 36) (τ16.2.1 37)) = (J_all (τ12.1 7) (τ12.1 6) (τ12.1 13) (τ12.1 14) (τ12.1 15) (τ12.2.1 13) (τ12.2.1 14) (τ12.2.1 15) (τ12.2.1 16) (τ12.2.1 10) (τ12.2.1 27) (τ12.2.1 28) (τ12.2.1 29) (τ12.2.1 30) (τ12.2.1 31) (τ12.2.1 32) (τ12.2.1 33) (τ12.2.1 34) (τ12.2.1 35) (τ12.2.1 36) (τ12.2.1 37)) from by rw [w6_τ16, w7_τ16, w13_τ16, w14_τ16, w15_τ16, g10_τ16, g13_τ16, g14_τ16, g15_τ16, g16_τ16, g27_τ16, g28_τ16, g29_τ16, g30_τ16, g31_τ16, g32_τ16, g33_τ16, g34_τ16, g35_τ16, g36_τ16, g37_τ16]]; exact CJ
      have BP : J_bp (τ16.2.1 44) (τ16.2.1 45) := by rw [show (J_bp (τ16.2.1 44) (τ16.2.1 45)) = (J_bp (τ12.2.1 44) (τ12.2.1 45)) from by rw [g44_τ16, g45_τ16]]; exact BP
      have CH : j_eq (σ.2.1 36 (σ.1 15)) (σ.2.1 37) (τ16.2.1 37) := by rw [show (j_eq (σ.2.1 36 (σ.1 15)) (σ.2.1 37) (τ16.2.1 37)) = (j_eq (σ.2.1 36 (σ.1 15)) (σ.2.1 37) (τ12.2.1 37)) from by rw [g37_τ16]]; exact CH
      have A2 : ∀ j, 0 ≤ τ16.2.1 2 j ∧ τ16.2.1 2 j ≤ 65535 := fun j => hT.2 2 j
      have A3 : ∀ j, 0 ≤ τ16.2.1 3 j ∧ τ16.2.1 3 j ≤ 30000 := fun j => hT.2 3 j
      have A4 : ∀ j, (-1000) ≤ τ16.2.1 4 j ∧ τ16.2.1 4 j ≤ 1499 := fun j => hT.2 4 j
      have A5 : ∀ j, 0 ≤ τ16.2.1 5 j ∧ τ16.2.1 5 j ≤ 2500 := fun j => hT.2 5 j
      have A6 : ∀ j, 0 ≤ τ16.2.1 6 j ∧ τ16.2.1 6 j ≤ 2500 := fun j => hT.2 6 j
      have A8 : ∀ j, 0 ≤ τ16.2.1 8 j ∧ τ16.2.1 8 j ≤ 1 := fun j => hT.2 8 j
      have A9 : ∀ j, (-1) ≤ τ16.2.1 9 j ∧ τ16.2.1 9 j ≤ 1499 := fun j => hT.2 9 j
      have A10 : ∀ j, (-1) ≤ τ16.2.1 10 j ∧ τ16.2.1 10 j ≤ 99 := fun j => hT.2 10 j
      have A11 : ∀ j, 0 ≤ τ16.2.1 11 j ∧ τ16.2.1 11 j ≤ 999 := fun j => hT.2 11 j
      have A13 : ∀ j, 0 ≤ τ16.2.1 13 j ∧ τ16.2.1 13 j ≤ 4 := fun j => hT.2 13 j
      have A14 : ∀ j, 0 ≤ τ16.2.1 14 j ∧ τ16.2.1 14 j ≤ 30000 := fun j => hT.2 14 j
      have A15 : ∀ j, 0 ≤ τ16.2.1 15 j ∧ τ16.2.1 15 j ≤ 999 := fun j => hT.2 15 j
      have A16 : ∀ j, (-1) ≤ τ16.2.1 16 j ∧ τ16.2.1 16 j ≤ 1499 := fun j => hT.2 16 j
      have A18 : ∀ j, 0 ≤ τ16.2.1 18 j ∧ τ16.2.1 18 j ≤ 1 := fun j => hT.2 18 j
      have A19 : ∀ j, (-1) ≤ τ16.2.1 19 j ∧ τ16.2.1 19 j ≤ 1499 := fun j => hT.2 19 j
      have A20 : ∀ j, 0 ≤ τ16.2.1 20 j ∧ τ16.2.1 20 j ≤ 999 := fun j => hT.2 20 j
      have A22 : ∀ j, 0 ≤ τ16.2.1 22 j ∧ τ16.2.1 22 j ≤ 1499 := fun j => hT.2 22 j
      have A23 : ∀ j, 0 ≤ τ16.2.1 23 j ∧ τ16.2.1 23 j ≤ 999 := fun j => hT.2 23 j
      have A24 : ∀ j, 0 ≤ τ16.2.1 24 j ∧ τ16.2.1 24 j ≤ 999 := fun j => hT.2 24 j
      have A26 : ∀ j, (-2147483648) ≤ τ16.2.1 26 j ∧ τ16.2.1 26 j ≤ 2147483647 := fun j => hT.2 26 j
      have A27 : ∀ j, 0 ≤ τ16.2.1 27 j ∧ τ16.2.1 27 j ≤ 90000 := fun j => hT.2 27 j
      have A28 : ∀ j, 0 ≤ τ16.2.1 28 j ∧ τ16.2.1 28 j ≤ 60 := fun j => hT.2 28 j
      have A29 : ∀ j, 0 ≤ τ16.2.1 29 j ∧ τ16.2.1 29 j ≤ 1499 := fun j => hT.2 29 j
      have A30 : ∀ j, 0 ≤ τ16.2.1 30 j ∧ τ16.2.1 30 j ≤ 20000 := fun j => hT.2 30 j
      have A31 : ∀ j, 0 ≤ τ16.2.1 31 j ∧ τ16.2.1 31 j ≤ 20000 := fun j => hT.2 31 j
      have A32 : ∀ j, 0 ≤ τ16.2.1 32 j ∧ τ16.2.1 32 j ≤ 999999 := fun j => hT.2 32 j
      have A33 : ∀ j, 0 ≤ τ16.2.1 33 j ∧ τ16.2.1 33 j ≤ 20000 := fun j => hT.2 33 j
      have A34 : ∀ j, 0 ≤ τ16.2.1 34 j ∧ τ16.2.1 34 j ≤ 20000 := fun j => hT.2 34 j
      have A35 : ∀ j, 0 ≤ τ16.2.1 35 j ∧ τ16.2.1 35 j ≤ 1499 := fun j => hT.2 35 j
      have A36 : ∀ j, 0 ≤ τ16.2.1 36 j ∧ τ16.2.1 36 j ≤ 20000 := fun j => hT.2 36 j
      have A37 : ∀ j, 0 ≤ τ16.2.1 37 j ∧ τ16.2.1 37 j ≤ 19999 := fun j => hT.2 37 j
      have A44 : ∀ j, 0 ≤ τ16.2.1 44 j ∧ τ16.2.1 44 j ≤ 42000 := fun j => hT.2 44 j
      have A45 : ∀ j, 0 ≤ τ16.2.1 45 j ∧ τ16.2.1 45 j ≤ 1000 := fun j => hT.2 45 j
      have A49 : ∀ j, (-300) ≤ τ16.2.1 49 j ∧ τ16.2.1 49 j ≤ 67035 := fun j => hT.2 49 j
      have A51 : ∀ j, 0 ≤ τ16.2.1 51 j ∧ τ16.2.1 51 j ≤ 1499 := fun j => hT.2 51 j
      have A54 : ∀ j, 0 ≤ τ16.2.1 54 j ∧ τ16.2.1 54 j ≤ 999 := fun j => hT.2 54 j
      have v3 : 0 ≤ τ16.1 3 ∧ τ16.1 3 ≤ 2500 := hT.1 3
      have v4 : 0 ≤ τ16.1 4 ∧ τ16.1 4 ≤ 100 := hT.1 4
      have v5 : 0 ≤ τ16.1 5 ∧ τ16.1 5 ≤ 1000 := hT.1 5
      have v6 : 0 ≤ τ16.1 6 ∧ τ16.1 6 ≤ 30000 := hT.1 6
      have v7 : 0 ≤ τ16.1 7 ∧ τ16.1 7 ≤ 1500 := hT.1 7
      have v8 : 0 ≤ τ16.1 8 ∧ τ16.1 8 ≤ 1000 := hT.1 8
      have v9 : 0 ≤ τ16.1 9 ∧ τ16.1 9 ≤ 1500 := hT.1 9
      have v10 : 0 ≤ τ16.1 10 ∧ τ16.1 10 ≤ 1000 := hT.1 10
      have v11 : 0 ≤ τ16.1 11 ∧ τ16.1 11 ≤ 50 := hT.1 11
      have v12 : (-2147483648) ≤ τ16.1 12 ∧ τ16.1 12 ≤ 2147483647 := hT.1 12
      have v13 : 0 ≤ τ16.1 13 ∧ τ16.1 13 ≤ 90000 := hT.1 13
      have v14 : 0 ≤ τ16.1 14 ∧ τ16.1 14 ≤ 20000 := hT.1 14
      have v15 : 0 ≤ τ16.1 15 ∧ τ16.1 15 ≤ 20000 := hT.1 15
      have v16 : 0 ≤ τ16.1 16 ∧ τ16.1 16 ≤ 20000 := hT.1 16
      have v21 : 0 ≤ τ16.1 21 ∧ τ16.1 21 ≤ 20000 := hT.1 21
      have v22 : 0 ≤ τ16.1 22 ∧ τ16.1 22 ≤ 300 := hT.1 22
      have v23 : 0 ≤ τ16.1 23 ∧ τ16.1 23 ≤ 300 := hT.1 23
      have v24 : 0 ≤ τ16.1 24 ∧ τ16.1 24 ≤ 1499 := hT.1 24
      have v25 : 0 ≤ τ16.1 25 ∧ τ16.1 25 ≤ 3 := hT.1 25
      have v26 : 0 ≤ τ16.1 26 ∧ τ16.1 26 ≤ 5000010 := hT.1 26
      have v27 : 0 ≤ τ16.1 27 ∧ τ16.1 27 ≤ 1 := hT.1 27
      have v35 : 0 ≤ τ16.1 35 ∧ τ16.1 35 ≤ 7 := hT.1 35
      have v36 : 0 ≤ τ16.1 36 ∧ τ16.1 36 ≤ 1001 := hT.1 36
      have v37 : 0 ≤ τ16.1 37 ∧ τ16.1 37 ≤ 4 := hT.1 37
      have a13_7 : 0 ≤ τ16.2.1 13 (τ16.1 7) ∧ τ16.2.1 13 (τ16.1 7) ≤ 4 := hT.2 13 _
      have a14_7 : 0 ≤ τ16.2.1 14 (τ16.1 7) ∧ τ16.2.1 14 (τ16.1 7) ≤ 30000 := hT.2 14 _
      have a36_15 : 0 ≤ τ16.2.1 36 (τ16.1 15) ∧ τ16.2.1 36 (τ16.1 15) ≤ 20000 := hT.2 36 _
      have av7 : σ.1 7 ≤ τ16.1 7 := ag.1 7 (by decide)
      have av13 : σ.1 13 ≤ τ16.1 13 := ag.1 13 (by decide)
      have av14 : σ.1 14 ≤ τ16.1 14 := ag.1 14 (by decide)
      have an14 : σ.2.1 14 (σ.1 7 + 1) = σ.1 6 := by omega
      refine h87 _ ?_
      replace ag := ag_v (i := 35) (x := 0) ag (Or.inl rfl)
      replace hT := cT_v (i := 35) hT (show (0 : Int) ≤ 0 ∧ 0 ≤ 7 from by (first | assumption | omega | (simp only [st_s] <;> omega) | fail))
      exact ⟨hT, (show 0 ≤ 0 ∧ 0 ≤ 19 from by (first | assumption | omega | (simp only [st_s] <;> omega) | fail)), (show J_ht (τ16.1 3) (τ16.2.1 2) (τ16.2.1 3) (τ16.2.1 5) (τ16.2.1 6) from HT), (show J_mn (τ16.1 3) (τ16.1 5) ((τ16.1 7) + 1) (τ16.2.1 4) from by (first | assumption | omega | (simp only [st_s] <;> omega) | fail)), (show J_rks (τ16.1 5) (τ16.1 4) (τ16.2.1 10) (τ16.2.1 11) from RKS), (show J_vs (τ16.1 8) (τ16.1 5) (τ16.2.1 20) from VS), (show J_vs (τ16.1 6) (τ16.1 5) (τ16.2.1 15) from TX), (show J_va (τ16.1 8) 1000 (τ16.2.1 18) (τ16.2.1 20) from VA), (show J_mk (τ16.1 11) (τ16.1 8) (τ16.1 9) (τ16.1 10) (τ16.2.1 25) from MK), (show J_sc (τ16.1 7) (τ16.1 9) (τ16.2.1 13) (τ16.2.1 14) (τ16.2.1 15) (τ16.2.1 16) (τ16.2.1 22) (τ16.2.1 19) from SC), (show J_ff (τ16.1 5) (τ16.1 7) (τ16.2.1 9) (τ16.2.1 13) (τ16.2.1 14) (τ16.2.1 15) from FF), (show ∀ s : Int, τ16.2.1 26 s ≤ (τ16.1 12) from MT), (show J_all (τ16.1 7) (τ16.1 6) (τ16.1 13) (τ16.1 14) (τ16.1 15) (τ16.2.1 13) (τ16.2.1 14) (τ16.2.1 15) (τ16.2.1 16) (τ16.2.1 10) (τ16.2.1 27) (τ16.2.1 28) (τ16.2.1 29) (τ16.2.1 30) (τ16.2.1 31) (τ16.2.1 32) (τ16.2.1 33) (τ16.2.1 34) (τ16.2.1 35) (τ16.2.1 36) (τ16.2.1 37) from CJ), (show J_bp (τ16.2.1 44) (τ16.2.1 45) from BP), (show J_nl (τ16.1 3) (τ16.2.1 2) (τ16.2.1 3) (τ16.2.1 4) from NL), (show 0 = 0 → J_rs ((0 : Int)) (τ16.1 7) (τ16.1 6) (τ16.1 36) (τ16.1 37) (τ16.1 5) (τ16.1 8) (τ16.2.1 14) from by (first | (intro z; exfalso; omega) | (intro z; unfold J_rs; rw [G14]; first | rw [show τ16.1 7 = σ.1 7 + 1 from by omega] | rw [show τ12.1 7 = σ.1 7 + 1 from by omega]; omega) | fail)), (show 0 = 0 → 5 ≤ ((0 : Int)) → 1 ≤ (τ16.1 36) → 0 ≤ τ16.2.1 10 (τ16.2.1 15 (τ16.2.1 14 (τ16.1 7))) from by (first | (intro z; exfalso; omega) | (intro z y; exfalso; omega) | exact fun _ => uc | (intro z y y2; exact uc (by omega) (by omega)) | (intro z y y2; exfalso; omega) | (intro z y y2; rw [G10, G14, G15, W7]; exact uc (by omega) (by omega)) | fail)), (show 0 = 0 → ((0 : Int)) = 4 → j_in (τ16.1 36) 1000 (τ16.2.1 54) from by (first | (intro z; exfalso; omega) | (intro z y; exfalso; omega) | exact fun _ => dj | fail)), (show 0 = 0 → 5 ≤ ((0 : Int)) → J_ip (τ16.1 7) (τ16.1 6) (τ16.1 37) (τ16.2.1 14) (τ16.2.1 15) (τ16.2.1 16) (τ16.2.1 19) from by (first | (intro z; exfalso; omega) | (intro z y; exfalso; omega) | exact fun _ => ipx | (intro z y; exact ipx (by omega)) | (intro z y; rw [W7, W6, W37, G14, G15, G16, G19]; exact ipx (by omega)) | fail)), (show 0 = 0 → (((0 : Int)) ≤ 5 → (τ16.1 13) ≤ 60 * (τ16.1 7)) ∧ (τ16.1 13) ≤ 60 * (τ16.1 7) + 60 from by (intro z; omega)), (show 0 = 0 → 6 ≤ ((0 : Int)) → (τ16.1 24) = (τ16.1 7) ∧ J_f (τ16.1 7) (τ16.1 13) (τ16.1 14) (τ16.2.1 13) (τ16.2.1 14) (τ16.2.1 15) (τ16.2.1 16) (τ16.2.1 27) (τ16.2.1 28) (τ16.2.1 29) (τ16.2.1 30) (τ16.2.1 31) (τ16.2.1 32) from by (first | (intro z; exfalso; omega) | (intro z y; exfalso; omega) | exact fun _ => frx | (intro z y; exact frx (by omega)) | (intro z y; have w := frx (by omega); rw [W7, W13, W14, W24, G13, G14, G15, G16, G27, G28, G29, G30, G31, G32]; exact w) | fail)), (show 0 = 0 → 6 ≤ ((0 : Int)) → J_sp (τ16.1 24) (τ16.1 21) (τ16.1 23) (τ16.1 22) (τ16.2.1 49) (τ16.2.1 51) ∧ ((τ16.1 16) + (τ16.1 21) ≤ 20000) ∧ (¬ (τ16.1 27) = 0 → 1 ≤ (τ16.1 21) ∧ 0 ≤ τ16.2.1 49 ((τ16.1 21) - 1) ∧ τ16.2.1 49 ((τ16.1 21) - 1) < 65536) ∧ ((τ16.1 26) ≤ 1000000) ∧ ((τ16.1 25) ≤ 2 → (τ16.1 27) = 0) from by (first | (intro z; exfalso; omega) | (intro z y; exfalso; omega) | exact fun _ => spx | (intro z y; exact spx (by omega)) | fail)), (show 0 = 0 → (τ16.1 15) ≤ (τ16.1 16) ∧ τ16.2.1 36 (τ16.1 15) ≤ (τ16.1 16) from by (intro z; first | exact sux | omega)), (show 0 = 0 → (τ16.1 9) ≤ (τ16.1 7) from by (intro z; omega)), (show j_rr ((σ.1 5)) (σ.2.1 10) (τ16.2.1 10) from by (first | exact j_rr0 _ _ | (rw [G10]; exact j_rr0 _ _) | fail)), (show j_eq (σ.2.1 36 (σ.1 15)) (σ.2.1 37) (τ16.2.1 37) from CH), (show (τ16.1 12) ≤ (σ.1 12) + 1 from by (first | assumption | omega | (simp only [st_s] <;> omega) | fail)), (show c_Y σ (s_v τ16 35 0) from by (first | exact c_Y0 _ | exact c_Y_g W4 G11 G20 G22 G25 | exact c_Y_g (by omega) G11 G20 (by rw [g22_τ7]) G25 | exact c_Y_g (by omega) G11 G20 (by rw [g22_τ12]; exact i60_11) G25 | exact ⟨⟨by rw [G20]; exact j_eq0 _ _, by rw [q14_2, g22_τ12, i60_11]; exact j_eqs (j_eq0 _ _) (by omega), by rw [G11]; exact j_eq0 _ _, by omega⟩, by rw [G25], by rw [G25], by rw [G25]⟩ | fail)), ag⟩
  refine ⟨fun c1 => ?_, fun c1 => ?_⟩
  ·
    refine h12 _ _ ?_
    refine ⟨fun c2 => ?_, fun c2 => ?_⟩
    ·
      exact ⟨hT, (show 0 ≤ 4 ∧ 4 ≤ 19 from by (first | assumption | omega | (simp only [st_s] <;> omega) | fail)), (show J_ht (σ.1 3) (σ.2.1 2) (σ.2.1 3) (σ.2.1 5) (σ.2.1 6) from HT), (show J_mn (σ.1 3) (σ.1 5) ((σ.1 7) + 1) (σ.2.1 4) from MN), (show J_rks (σ.1 5) (σ.1 4) (σ.2.1 10) (σ.2.1 11) from RKS), (show J_vs (σ.1 8) (σ.1 5) (σ.2.1 20) from VS), (show J_vs (σ.1 6) (σ.1 5) (σ.2.1 15) from TX), (show J_va (σ.1 8) 1000 (σ.2.1 18) (σ.2.1 20) from VA), (show J_mk (σ.1 11) (σ.1 8) (σ.1 9) (σ.1 10) (σ.2.1 25) from MK), (show J_sc (σ.1 7) (σ.1 9) (σ.2.1 13) (σ.2.1 14) (σ.2.1 15) (σ.2.1 16) (σ.2.1 22) (σ.2.1 19) from SC), (show J_ff (σ.1 5) (σ.1 7) (σ.2.1 9) (σ.2.1 13) (σ.2.1 14) (σ.2.1 15) from FF), (show ∀ s : Int, σ.2.1 26 s ≤ (σ.1 12) from MT), (show J_all (σ.1 7) (σ.1 6) (σ.1 13) (σ.1 14) (σ.1 15) (σ.2.1 13) (σ.2.1 14) (σ.2.1 15) (σ.2.1 16) (σ.2.1 10) (σ.2.1 27) (σ.2.1 28) (σ.2.1 29) (σ.2.1 30) (σ.2.1 31) (σ.2.1 32) (σ.2.1 33) (σ.2.1 34) (σ.2.1 35) (σ.2.1 36) (σ.2.1 37) from CJ), (show J_bp (σ.2.1 44) (σ.2.1 45) from BP), (show J_nl (σ.1 3) (σ.2.1 2) (σ.2.1 3) (σ.2.1 4) from NL), (show 4 = 0 → J_rs (σ.1 35) (σ.1 7) (σ.1 6) (σ.1 36) (σ.1 37) (σ.1 5) (σ.1 8) (σ.2.1 14) from by (first | (intro z; exfalso; omega) | (intro z; unfold J_rs; rw [G14]; first | rw [show τ16.1 7 = σ.1 7 + 1 from by omega] | rw [show τ12.1 7 = σ.1 7 + 1 from by omega]; omega) | fail)), (show 4 = 0 → 5 ≤ (σ.1 35) → 1 ≤ (σ.1 36) → 0 ≤ σ.2.1 10 (σ.2.1 15 (σ.2.1 14 (σ.1 7))) from by (first | (intro z; exfalso; omega) | (intro z y; exfalso; omega) | exact fun _ => uc | (intro z y y2; exact uc (by omega) (by omega)) | (intro z y y2; exfalso; omega) | (intro z y y2; rw [G10, G14, G15, W7]; exact uc (by omega) (by omega)) | fail)), (show 4 = 0 → (σ.1 35) = 4 → j_in (σ.1 36) 1000 (σ.2.1 54) from by (first | (intro z; exfalso; omega) | (intro z y; exfalso; omega) | exact fun _ => dj | fail)), (show 4 = 0 → 5 ≤ (σ.1 35) → J_ip (σ.1 7) (σ.1 6) (σ.1 37) (σ.2.1 14) (σ.2.1 15) (σ.2.1 16) (σ.2.1 19) from by (first | (intro z; exfalso; omega) | (intro z y; exfalso; omega) | exact fun _ => ipx | (intro z y; exact ipx (by omega)) | (intro z y; rw [W7, W6, W37, G14, G15, G16, G19]; exact ipx (by omega)) | fail)), (show 4 = 0 → ((σ.1 35) ≤ 5 → (σ.1 13) ≤ 60 * (σ.1 7)) ∧ (σ.1 13) ≤ 60 * (σ.1 7) + 60 from by (intro z; omega)), (show 4 = 0 → 6 ≤ (σ.1 35) → (σ.1 24) = (σ.1 7) ∧ J_f (σ.1 7) (σ.1 13) (σ.1 14) (σ.2.1 13) (σ.2.1 14) (σ.2.1 15) (σ.2.1 16) (σ.2.1 27) (σ.2.1 28) (σ.2.1 29) (σ.2.1 30) (σ.2.1 31) (σ.2.1 32) from by (first | (intro z; exfalso; omega) | (intro z y; exfalso; omega) | exact fun _ => frx | (intro z y; exact frx (by omega)) | (intro z y; have w := frx (by omega); rw [W7, W13, W14, W24, G13, G14, G15, G16, G27, G28, G29, G30, G31, G32]; exact w) | fail)), (show 4 = 0 → 6 ≤ (σ.1 35) → J_sp (σ.1 24) (σ.1 21) (σ.1 23) (σ.1 22) (σ.2.1 49) (σ.2.1 51) ∧ ((σ.1 16) + (σ.1 21) ≤ 20000) ∧ (¬ (σ.1 27) = 0 → 1 ≤ (σ.1 21) ∧ 0 ≤ σ.2.1 49 ((σ.1 21) - 1) ∧ σ.2.1 49 ((σ.1 21) - 1) < 65536) ∧ ((σ.1 26) ≤ 1000000) ∧ ((σ.1 25) ≤ 2 → (σ.1 27) = 0) from by (first | (intro z; exfalso; omega) | (intro z y; exfalso; omega) | exact fun _ => spx | (intro z y; exact spx (by omega)) | fail)), (show 4 = 0 → (σ.1 15) ≤ (σ.1 16) ∧ σ.2.1 36 (σ.1 15) ≤ (σ.1 16) from by (intro z; first | exact sux | omega)), (show 4 = 0 → (σ.1 9) ≤ (σ.1 7) from by (intro z; omega)), (show j_rr ((σ.1 5)) (σ.2.1 10) (σ.2.1 10) from by (first | exact j_rr0 _ _ | (rw [G10]; exact j_rr0 _ _) | fail)), (show j_eq (σ.2.1 36 (σ.1 15)) (σ.2.1 37) (σ.2.1 37) from CH), (show (σ.1 12) ≤ (σ.1 12) + 1 from by (first | assumption | omega | (simp only [st_s] <;> omega) | fail)), (show c_Y σ σ from by (first | exact c_Y0 _ | exact c_Y_g W4 G11 G20 G22 G25 | exact c_Y_g (by omega) G11 G20 (by rw [g22_τ7]) G25 | exact c_Y_g (by omega) G11 G20 (by rw [g22_τ12]; exact i60_11) G25 | exact ⟨⟨by rw [G20]; exact j_eq0 _ _, by rw [q14_2, g22_τ12, i60_11]; exact j_eqs (j_eq0 _ _) (by omega), by rw [G11]; exact j_eq0 _ _, by omega⟩, by rw [G25], by rw [G25], by rw [G25]⟩ | fail)), ag⟩
    ·
      refine ⟨fun c3 => ?_, fun c3 => ?_⟩
      ·
        refine ⟨fun c4 => ?_, fun c4 => ?_⟩
        ·
          exact l_60 _ _ hT ag (show σ.1 3 = σ.1 3 from by omega) (show σ.1 4 = σ.1 4 from by omega) (show σ.1 5 = σ.1 5 from by omega) (show σ.1 6 = σ.1 6 from by omega) (show σ.1 8 = σ.1 8 from by omega) (show σ.1 10 = σ.1 10 from by omega) (show σ.1 11 = σ.1 11 from by omega) (show σ.1 15 = σ.1 15 from by omega) (show σ.1 16 = σ.1 16 from by omega) (show σ.1 21 = σ.1 21 from by omega) (show σ.1 22 = σ.1 22 from by omega) (show σ.1 23 = σ.1 23 from by omega) (show σ.1 24 = σ.1 24 from by omega) (show σ.1 25 = σ.1 25 from by omega) (show σ.1 26 = σ.1 26 from by omega) (show σ.1 27 = σ.1 27 from by omega) (show σ.1 36 = σ.1 36 from by omega) (show σ.1 37 = σ.1 37 from by omega) G2 G3 G4 G5 G6 G8 G10 G11 G14 G15 G16 G18 G20 G23 G24 G25 G33 G34 G35 G36 G37 G44 G45 G49 G51 G54 (show (σ.1 7) = (σ.1 7) from by (first | assumption | omega | (simp only [st_s] <;> omega) | fail)) (show ¬ (σ.1 37) = 3 from by (first | assumption | omega | (simp only [st_s] <;> omega) | fail)) (show 1 ≤ (σ.1 36) ∧ ((σ.1 37) = 0 → 2 ≤ (σ.1 36)) from by (first | assumption | omega | (simp only [st_s] <;> omega) | fail)) (show (σ.1 37) = 2 → J_f (σ.1 7) (σ.1 13) (σ.1 14) (σ.2.1 13) (σ.2.1 14) (σ.2.1 15) (σ.2.1 16) (σ.2.1 27) (σ.2.1 28) (σ.2.1 29) (σ.2.1 30) (σ.2.1 31) (σ.2.1 32) from by (first | (intro z; exfalso; omega) | exact fun _ => q5_7 c8 | fail)) (show (σ.1 13) ≤ 60 * (σ.1 7) + 60 ∧ (¬ (σ.1 37) = 2 → (σ.1 13) = (σ.1 13)) from by (first | assumption | omega | (simp only [st_s] <;> omega) | fail)) (show ∀ s : Int, σ.2.1 26 s ≤ (σ.1 12) from MT) (show (σ.1 12) ≤ (σ.1 12) + 1 ∧ (σ.1 7) = (σ.1 7) ∧ (σ.1 9) = (σ.1 9) from by (first | assumption | omega | (simp only [st_s] <;> omega) | fail)) (show σ.2.1 13 = σ.2.1 13 from by (first | rfl | exact g13_τ7 | fail)) (show σ.2.1 9 = σ.2.1 9 from by (first | rfl | exact g9_τ7 | fail)) (show σ.2.1 19 = σ.2.1 19 from by (first | rfl | exact g19_τ7 | fail)) (show σ.2.1 22 = σ.2.1 22 from by (first | rfl | exact g22_τ7 | fail)) (show j_eq (σ.2.1 36 (σ.1 15)) (σ.2.1 37) (σ.2.1 37) from CH) (show 5 ≤ (σ.1 35) from by (first | assumption | omega | (simp only [st_s] <;> omega) | fail))
        ·
          refine ⟨_, K_X0_makeFrame hT (show 0 ≤ (σ.1 7) from by (first | assumption | omega | (simp only [st_s] <;> omega) | fail)) (show (σ.1 7) < 1500 from by (first | assumption | omega | (simp only [st_s] <;> omega) | fail)) (show (σ.1 7) = (σ.1 7) from by (first | assumption | omega | (simp only [st_s] <;> omega) | fail)) (show (σ.1 13) ≤ 60 * (σ.1 7) from by (first | assumption | omega | (simp only [st_s] <;> omega) | fail)) (show J_hfa (σ.1 9) (σ.2.1 13) (σ.2.1 14) (σ.2.1 22) from by exact JFx) (show (σ.1 12) < 2147483647 from by (first | assumption | omega | (simp only [st_s] <;> omega) | fail)) (show J_sc (σ.1 7) (σ.1 9) (σ.2.1 13) (σ.2.1 14) (σ.2.1 15) (σ.2.1 16) (σ.2.1 22) (σ.2.1 19) from SC) (show J_ip (σ.1 7) (σ.1 6) (σ.1 37) (σ.2.1 14) (σ.2.1 15) (σ.2.1 16) (σ.2.1 19) from by exact ipx (by omega)) (show ¬ (σ.1 37) = 0 from by (first | assumption | omega | (simp only [st_s] <;> omega) | fail)) (show σ.2.1 14 ((σ.1 7) + 1) = (σ.1 6) from by (first | assumption | omega | (simp only [st_s] <;> omega) | fail)) (show σ.2.1 14 (σ.1 7) ≤ (σ.1 6) from by (first | assumption | omega | (simp only [st_s] <;> omega) | fail)) (show ∀ i : Int, 0 ≤ i → i < (σ.1 7) → J_t i (σ.1 6) (σ.2.1 13) (σ.2.1 14) (σ.2.1 15) (σ.2.1 16) (σ.2.1 10) from by exact jt) (show ∀ s : Int, σ.2.1 26 s ≤ (σ.1 12) from MT), ?_⟩
          intro x6 τ7 r_x6 hn_τ7 hf_τ7 hq
          obtain ⟨hT, q5_1, q5_2, q5_3, q5_4, q5_5, q5_6, q5_7, q5_8⟩ := hq
          replace q5_1 : 0 ≤ x6 ∧ x6 ≤ 1 := q5_1
          replace q5_2 : τ7.2.1 27 (σ.1 7) + τ7.2.1 28 (σ.1 7) = (τ7.1 13) := q5_2
          replace q5_3 : (τ7.1 13) ≤ 60 * (σ.1 7) + 60 := q5_3
          replace q5_4 : ¬ x6 = 0 → τ7.2.1 30 (σ.1 7) + τ7.2.1 31 (σ.1 7) = (τ7.1 14) := q5_4
          replace q5_5 : (τ7.1 12) = (σ.1 12) + 1 := q5_5
          replace q5_6 : ∀ s : Int, τ7.2.1 26 s ≤ (τ7.1 12) := q5_6
          replace q5_7 : ¬ x6 = 0 → J_f (σ.1 7) (τ7.1 13) (τ7.1 14) (τ7.2.1 13) (τ7.2.1 14) (τ7.2.1 15) (τ7.2.1 16) (τ7.2.1 27) (τ7.2.1 28) (τ7.2.1 29) (τ7.2.1 30) (τ7.2.1 31) (τ7.2.1 32) := q5_7
          replace q5_8 : c_ag σ τ7 := q5_8
          replace ag : c_ag σ τ7 := ag_t ag q5_8 rfl
          have w3_τ7 : τ7.1 3 = σ.1 3 := hf_τ7.1 3 (by decide)
          have w4_τ7 : τ7.1 4 = σ.1 4 := hf_τ7.1 4 (by decide)
          have w5_τ7 : τ7.1 5 = σ.1 5 := hf_τ7.1 5 (by decide)
          have w6_τ7 : τ7.1 6 = σ.1 6 := hf_τ7.1 6 (by decide)
          have w7_τ7 : τ7.1 7 = σ.1 7 := hf_τ7.1 7 (by decide)
          have w8_τ7 : τ7.1 8 = σ.1 8 := hf_τ7.1 8 (by decide)
          have w9_τ7 : τ7.1 9 = σ.1 9 := hf_τ7.1 9 (by decide)
          have w10_τ7 : τ7.1 10 = σ.1 10 := hf_τ7.1 10 (by decide)
          have w11_τ7 : τ7.1 11 = σ.1 11 := hf_τ7.1 11 (by decide)
          have w15_τ7 : τ7.1 15 = σ.1 15 := hf_τ7.1 15 (by decide)
          have w16_τ7 : τ7.1 16 = σ.1 16 := hf_τ7.1 16 (by decide)
          have w21_τ7 : τ7.1 21 = σ.1 21 := hf_τ7.1 21 (by decide)
          have w22_τ7 : τ7.1 22 = σ.1 22 := hf_τ7.1 22 (by decide)
          have w23_τ7 : τ7.1 23 = σ.1 23 := hf_τ7.1 23 (by decide)
          have w24_τ7 : τ7.1 24 = σ.1 24 := hf_τ7.1 24 (by decide)
          have w25_τ7 : τ7.1 25 = σ.1 25 := hf_τ7.1 25 (by decide)
          have w26_τ7 : τ7.1 26 = σ.1 26 := hf_τ7.1 26 (by decide)
          have w27_τ7 : τ7.1 27 = σ.1 27 := hf_τ7.1 27 (by decide)
          have w35_τ7 : τ7.1 35 = σ.1 35 := hf_τ7.1 35 (by decide)
          have w36_τ7 : τ7.1 36 = σ.1 36 := hf_τ7.1 36 (by decide)
          have w37_τ7 : τ7.1 37 = σ.1 37 := hf_τ7.1 37 (by decide)
          have g2_τ7 : τ7.2.1 2 = σ.2.1 2 := hf_τ7.2.1 2 (by decide)
          have g3_τ7 : τ7.2.1 3 = σ.2.1 3 := hf_τ7.2.1 3 (by decide)
          have g4_τ7 : τ7.2.1 4 = σ.2.1 4 := hf_τ7.2.1 4 (by decide)
          have g5_τ7 : τ7.2.1 5 = σ.2.1 5 := hf_τ7.2.1 5 (by decide)
          have g6_τ7 : τ7.2.1 6 = σ.2.1 6 := hf_τ7.2.1 6 (by decide)
          have g8_τ7 : τ7.2.1 8 = σ.2.1 8 := hf_τ7.2.1 8 (by decide)
          have g9_τ7 : τ7.2.1 9 = σ.2.1 9 := hf_τ7.2.1 9 (by decide)
          have g10_τ7 : τ7.2.1 10 = σ.2.1 10 := hf_τ7.2.1 10 (by decide)
          have g11_τ7 : τ7.2.1 11 = σ.2.1 11 := hf_τ7.2.1 11 (by decide)
          have g13_τ7 : τ7.2.1 13 = σ.2.1 13 := hf_τ7.2.1 13 (by decide)
          have g14_τ7 : τ7.2.1 14 = σ.2.1 14 := hf_τ7.2.1 14 (by decide)
          have g15_τ7 : τ7.2.1 15 = σ.2.1 15 := hf_τ7.2.1 15 (by decide)
          have g16_τ7 : τ7.2.1 16 = σ.2.1 16 := hf_τ7.2.1 16 (by decide)
          have g18_τ7 : τ7.2.1 18 = σ.2.1 18 := hf_τ7.2.1 18 (by decide)
          have g19_τ7 : τ7.2.1 19 = σ.2.1 19 := hf_τ7.2.1 19 (by decide)
          have g20_τ7 : τ7.2.1 20 = σ.2.1 20 := hf_τ7.2.1 20 (by decide)
          have g22_τ7 : τ7.2.1 22 = σ.2.1 22 := hf_τ7.2.1 22 (by decide)
          have g23_τ7 : τ7.2.1 23 = σ.2.1 23 := hf_τ7.2.1 23 (by decide)
          have g24_τ7 : τ7.2.1 24 = σ.2.1 24 := hf_τ7.2.1 24 (by decide)
          have g25_τ7 : τ7.2.1 25 = σ.2.1 25 := hf_τ7.2.1 25 (by decide)
          have g33_τ7 : τ7.2.1 33 = σ.2.1 33 := hf_τ7.2.1 33 (by decide)
          have g34_τ7 : τ7.2.1 34 = σ.2.1 34 := hf_τ7.2.1 34 (by decide)
          have g35_τ7 : τ7.2.1 35 = σ.2.1 35 := hf_τ7.2.1 35 (by decide)
          have g36_τ7 : τ7.2.1 36 = σ.2.1 36 := hf_τ7.2.1 36 (by decide)
          have g37_τ7 : τ7.2.1 37 = σ.2.1 37 := hf_τ7.2.1 37 (by decide)
          have g44_τ7 : τ7.2.1 44 = σ.2.1 44 := hf_τ7.2.1 44 (by decide)
          have g45_τ7 : τ7.2.1 45 = σ.2.1 45 := hf_τ7.2.1 45 (by decide)
          have g49_τ7 : τ7.2.1 49 = σ.2.1 49 := hf_τ7.2.1 49 (by decide)
          have g51_τ7 : τ7.2.1 51 = σ.2.1 51 := hf_τ7.2.1 51 (by decide)
          have g54_τ7 : τ7.2.1 54 = σ.2.1 54 := hf_τ7.2.1 54 (by decide)
          have W3 : τ7.1 3 = σ.1 3 := by omega
          have W4 : τ7.1 4 = σ.1 4 := by omega
          have W5 : τ7.1 5 = σ.1 5 := by omega
          have W6 : τ7.1 6 = σ.1 6 := by omega
          have W8 : τ7.1 8 = σ.1 8 := by omega
          have W10 : τ7.1 10 = σ.1 10 := by omega
          have W11 : τ7.1 11 = σ.1 11 := by omega
          have W15 : τ7.1 15 = σ.1 15 := by omega
          have W16 : τ7.1 16 = σ.1 16 := by omega
          have W21 : τ7.1 21 = σ.1 21 := by omega
          have W22 : τ7.1 22 = σ.1 22 := by omega
          have W23 : τ7.1 23 = σ.1 23 := by omega
          have W24 : τ7.1 24 = σ.1 24 := by omega
          have W25 : τ7.1 25 = σ.1 25 := by omega
          have W26 : τ7.1 26 = σ.1 26 := by omega
          have W27 : τ7.1 27 = σ.1 27 := by omega
          have W36 : τ7.1 36 = σ.1 36 := by omega
          have W37 : τ7.1 37 = σ.1 37 := by omega
          have G2 : τ7.2.1 2 = σ.2.1 2 := (g2_τ7).trans G2
          have G3 : τ7.2.1 3 = σ.2.1 3 := (g3_τ7).trans G3
          have G4 : τ7.2.1 4 = σ.2.1 4 := (g4_τ7).trans G4
          have G5 : τ7.2.1 5 = σ.2.1 5 := (g5_τ7).trans G5
          have G6 : τ7.2.1 6 = σ.2.1 6 := (g6_τ7).trans G6
          have G8 : τ7.2.1 8 = σ.2.1 8 := (g8_τ7).trans G8
          have G10 : τ7.2.1 10 = σ.2.1 10 := (g10_τ7).trans G10
          have G11 : τ7.2.1 11 = σ.2.1 11 := (g11_τ7).trans G11
          have G14 : τ7.2.1 14 = σ.2.1 14 := (g14_τ7).trans G14
          have G15 : τ7.2.1 15 = σ.2.1 15 := (g15_τ7).trans G15
          have G16 : τ7.2.1 16 = σ.2.1 16 := (g16_τ7).trans G16
          have G18 : τ7.2.1 18 = σ.2.1 18 := (g18_τ7).trans G18
          have G20 : τ7.2.1 20 = σ.2.1 20 := (g20_τ7).trans G20
          have G23 : τ7.2.1 23 = σ.2.1 23 := (g23_τ7).trans G23
          have G24 : τ7.2.1 24 = σ.2.1 24 := (g24_τ7).trans G24
          have G25 : τ7.2.1 25 = σ.2.1 25 := (g25_τ7).trans G25
          have G33 : τ7.2.1 33 = σ.2.1 33 := (g33_τ7).trans G33
          have G34 : τ7.2.1 34 = σ.2.1 34 := (g34_τ7).trans G34
          have G35 : τ7.2.1 35 = σ.2.1 35 := (g35_τ7).trans G35
          have G36 : τ7.2.1 36 = σ.2.1 36 := (g36_τ7).trans G36
          have G37 : τ7.2.1 37 = σ.2.1 37 := (g37_τ7).trans G37
          have G44 : τ7.2.1 44 = σ.2.1 44 := (g44_τ7).trans G44
          have G45 : τ7.2.1 45 = σ.2.1 45 := (g45_τ7).trans G45
          have G49 : τ7.2.1 49 = σ.2.1 49 := (g49_τ7).trans G49
          have G51 : τ7.2.1 51 = σ.2.1 51 := (g51_τ7).trans G51
          have G54 : τ7.2.1 54 = σ.2.1 54 := (g54_τ7).trans G54
          have y13_7_τ7 : τ7.2.1 13 (τ7.1 7) = (σ.2.1 13) (σ.1 7) := by rw [g13_τ7, w7_τ7]
          have y14_7_τ7 : τ7.2.1 14 (τ7.1 7) = (σ.2.1 14) (σ.1 7) := by rw [g14_τ7, w7_τ7]
          have y36_15_τ7 : τ7.2.1 36 (τ7.1 15) = (σ.2.1 36) (σ.1 15) := by rw [g36_τ7, w15_τ7]
          have HT : J_ht (τ7.1 3) (τ7.2.1 2) (τ7.2.1 3) (τ7.2.1 5) (τ7.2.1 6) := by rw [show (J_ht (τ7.1 3) (τ7.2.1 2) (τ7.2.1 3) (τ7.2.1 5) (τ7.2.1 6)) = (J_ht (σ.1 3) (σ.2.1 2) (σ.2.1 3) (σ.2.1 5) (σ.2.1 6)) from by rw [w3_τ7, g2_τ7, g3_τ7, g5_τ7, g6_τ7]]; exact HT
          have NL : J_nl (τ7.1 3) (τ7.2.1 2) (τ7.2.1 3) (τ7.2.1 4) := by rw [show (J_nl (τ7.1 3) (τ7.2.1 2) (τ7.2.1 3) (τ7.2.1 4)) = (J_nl (σ.1 3) (σ.2.1 2) (σ.2.1 3) (σ.2.1 4)) from by rw [w3_τ7, g2_τ7, g3_τ7, g4_τ7]]; exact NL
          have MN : J_mn (τ7.1 3) (τ7.1 5) ((τ7.1 7) + 1) (τ7.2.1 4) := by rw [show (J_mn (τ7.1 3) (τ7.1 5) ((τ7.1 7) + 1) (τ7.2.1 4)) = (J_mn (σ.1 3) (σ.1 5) ((σ.1 7) + 1) (σ.2.1 4)) from by rw [w3_τ7, w5_τ7, w7_τ7, g4_τ7]]; exact MN
          have VA : J_va (τ7.1 8) 1000 (τ7.2.1 18) (τ7.2.1 20) := by rw [show (J_va (τ7.1 8) 1000 (τ7.2.1 18) (τ7.2.1 20)) = (J_va (σ.1 8) 1000 (σ.2.1 18) (σ.2.1 20)) from by rw [w8_τ7, g18_τ7, g20_τ7]]; exact VA
          have SC : J_sc (τ7.1 7) (τ7.1 9) (τ7.2.1 13) (τ7.2.1 14) (τ7.2.1 15) (τ7.2.1 16) (τ7.2.1 22) (τ7.2.1 19) := by rw [show (J_sc (τ7.1 7) (τ7.1 9) (τ7.2.1 13) (τ7.2.1 14) (τ7.2.1 15) (τ7.2.1 16) (τ7.2.1 22) (τ7.2.1 19)) = (J_sc (σ.1 7) (σ.1 9) (σ.2.1 13) (σ.2.1 14) (σ.2.1 15) (σ.2.1 16) (σ.2.1 22) (σ.2.1 19)) from by rw [w7_τ7, w9_τ7, g13_τ7, g14_τ7, g15_τ7, g16_τ7, g19_τ7, g22_τ7]]; exact SC
          have MK : J_mk (τ7.1 11) (τ7.1 8) (τ7.1 9) (τ7.1 10) (τ7.2.1 25) := by rw [show (J_mk (τ7.1 11) (τ7.1 8) (τ7.1 9) (τ7.1 10) (τ7.2.1 25)) = (J_mk (σ.1 11) (σ.1 8) (σ.1 9) (σ.1 10) (σ.2.1 25)) from by rw [w8_τ7, w9_τ7, w10_τ7, w11_τ7, g25_τ7]]; exact MK
          have FF : J_ff (τ7.1 5) (τ7.1 7) (τ7.2.1 9) (τ7.2.1 13) (τ7.2.1 14) (τ7.2.1 15) := by rw [show (J_ff (τ7.1 5) (τ7.1 7) (τ7.2.1 9) (τ7.2.1 13) (τ7.2.1 14) (τ7.2.1 15)) = (J_ff (σ.1 5) (σ.1 7) (σ.2.1 9) (σ.2.1 13) (σ.2.1 14) (σ.2.1 15)) from by rw [w5_τ7, w7_τ7, g9_τ7, g13_τ7, g14_τ7, g15_τ7]]; exact FF
          have MT : ∀ s : Int, τ7.2.1 26 s ≤ (τ7.1 12) := q5_6
          have VS : J_vs (τ7.1 8) (τ7.1 5) (τ7.2.1 20) := by rw [show (J_vs (τ7.1 8) (τ7.1 5) (τ7.2.1 20)) = (J_vs (σ.1 8) (σ.1 5) (σ.2.1 20)) from by rw [w5_τ7, w8_τ7, g20_τ7]]; exact VS
          have TX : J_vs (τ7.1 6) (τ7.1 5) (τ7.2.1 15) := by rw [show (J_vs (τ7.1 6) (τ7.1 5) (τ7.2.1 15)) = (J_vs (σ.1 6) (σ.1 5) (σ.2.1 15)) from by rw [w5_τ7, w6_τ7, g15_τ7]]; exact TX
          have RKS : J_rks (τ7.1 5) (τ7.1 4) (τ7.2.1 10) (τ7.2.1 11) := by rw [show (J_rks (τ7.1 5) (τ7.1 4) (τ7.2.1 10) (τ7.2.1 11)) = (J_rks (σ.1 5) (σ.1 4) (σ.2.1 10) (σ.2.1 11)) from by rw [w4_τ7, w5_τ7, g10_τ7, g11_τ7]]; exact RKS
          have BP : J_bp (τ7.2.1 44) (τ7.2.1 45) := by rw [show (J_bp (τ7.2.1 44) (τ7.2.1 45)) = (J_bp (σ.2.1 44) (σ.2.1 45)) from by rw [g44_τ7, g45_τ7]]; exact BP
          have CH : j_eq (σ.2.1 36 (σ.1 15)) (σ.2.1 37) (τ7.2.1 37) := by rw [show (j_eq (σ.2.1 36 (σ.1 15)) (σ.2.1 37) (τ7.2.1 37)) = (j_eq (σ.2.1 36 (σ.1 15)) (σ.2.1 37) (σ.2.1 37)) from by rw [g37_τ7]]; exact CH
          have RS : J_rs (τ7.1 35) (τ7.1 7) (τ7.1 6) (τ7.1 36) (τ7.1 37) (τ7.1 5) (τ7.1 8) (τ7.2.1 14) := by rw [show (J_rs (τ7.1 35) (τ7.1 7) (τ7.1 6) (τ7.1 36) (τ7.1 37) (τ7.1 5) (τ7.1 8) (τ7.2.1 14)) = (J_rs (σ.1 35) (σ.1 7) (σ.1 6) (σ.1 36) (σ.1 37) (σ.1 5) (σ.1 8) (σ.2.1 14)) from by rw [w5_τ7, w6_τ7, w7_τ7, w8_τ7, w35_τ7, w36_τ7, w37_τ7, g14_τ7]]; exact RS
          have A2 : ∀ j, 0 ≤ τ7.2.1 2 j ∧ τ7.2.1 2 j ≤ 65535 := fun j => hT.2 2 j
          have A3 : ∀ j, 0 ≤ τ7.2.1 3 j ∧ τ7.2.1 3 j ≤ 30000 := fun j => hT.2 3 j
          have A4 : ∀ j, (-1000) ≤ τ7.2.1 4 j ∧ τ7.2.1 4 j ≤ 1499 := fun j => hT.2 4 j
          have A5 : ∀ j, 0 ≤ τ7.2.1 5 j ∧ τ7.2.1 5 j ≤ 2500 := fun j => hT.2 5 j
          have A6 : ∀ j, 0 ≤ τ7.2.1 6 j ∧ τ7.2.1 6 j ≤ 2500 := fun j => hT.2 6 j
          have A8 : ∀ j, 0 ≤ τ7.2.1 8 j ∧ τ7.2.1 8 j ≤ 1 := fun j => hT.2 8 j
          have A9 : ∀ j, (-1) ≤ τ7.2.1 9 j ∧ τ7.2.1 9 j ≤ 1499 := fun j => hT.2 9 j
          have A10 : ∀ j, (-1) ≤ τ7.2.1 10 j ∧ τ7.2.1 10 j ≤ 99 := fun j => hT.2 10 j
          have A11 : ∀ j, 0 ≤ τ7.2.1 11 j ∧ τ7.2.1 11 j ≤ 999 := fun j => hT.2 11 j
          have A13 : ∀ j, 0 ≤ τ7.2.1 13 j ∧ τ7.2.1 13 j ≤ 4 := fun j => hT.2 13 j
          have A14 : ∀ j, 0 ≤ τ7.2.1 14 j ∧ τ7.2.1 14 j ≤ 30000 := fun j => hT.2 14 j
          have A15 : ∀ j, 0 ≤ τ7.2.1 15 j ∧ τ7.2.1 15 j ≤ 999 := fun j => hT.2 15 j
          have A16 : ∀ j, (-1) ≤ τ7.2.1 16 j ∧ τ7.2.1 16 j ≤ 1499 := fun j => hT.2 16 j
          have A18 : ∀ j, 0 ≤ τ7.2.1 18 j ∧ τ7.2.1 18 j ≤ 1 := fun j => hT.2 18 j
          have A19 : ∀ j, (-1) ≤ τ7.2.1 19 j ∧ τ7.2.1 19 j ≤ 1499 := fun j => hT.2 19 j
          have A20 : ∀ j, 0 ≤ τ7.2.1 20 j ∧ τ7.2.1 20 j ≤ 999 := fun j => hT.2 20 j
          have A22 : ∀ j, 0 ≤ τ7.2.1 22 j ∧ τ7.2.1 22 j ≤ 1499 := fun j => hT.2 22 j
          have A23 : ∀ j, 0 ≤ τ7.2.1 23 j ∧ τ7.2.1 23 j ≤ 999 := fun j => hT.2 23 j
          have A24 : ∀ j, 0 ≤ τ7.2.1 24 j ∧ τ7.2.1 24 j ≤ 999 := fun j => hT.2 24 j
          have A26 : ∀ j, (-2147483648) ≤ τ7.2.1 26 j ∧ τ7.2.1 26 j ≤ 2147483647 := fun j => hT.2 26 j
          have A27 : ∀ j, 0 ≤ τ7.2.1 27 j ∧ τ7.2.1 27 j ≤ 90000 := fun j => hT.2 27 j
          have A28 : ∀ j, 0 ≤ τ7.2.1 28 j ∧ τ7.2.1 28 j ≤ 60 := fun j => hT.2 28 j
          have A29 : ∀ j, 0 ≤ τ7.2.1 29 j ∧ τ7.2.1 29 j ≤ 1499 := fun j => hT.2 29 j
          have A30 : ∀ j, 0 ≤ τ7.2.1 30 j ∧ τ7.2.1 30 j ≤ 20000 := fun j => hT.2 30 j
          have A31 : ∀ j, 0 ≤ τ7.2.1 31 j ∧ τ7.2.1 31 j ≤ 20000 := fun j => hT.2 31 j
          have A32 : ∀ j, 0 ≤ τ7.2.1 32 j ∧ τ7.2.1 32 j ≤ 999999 := fun j => hT.2 32 j
          have A33 : ∀ j, 0 ≤ τ7.2.1 33 j ∧ τ7.2.1 33 j ≤ 20000 := fun j => hT.2 33 j
          have A34 : ∀ j, 0 ≤ τ7.2.1 34 j ∧ τ7.2.1 34 j ≤ 20000 := fun j => hT.2 34 j
          have A35 : ∀ j, 0 ≤ τ7.2.1 35 j ∧ τ7.2.1 35 j ≤ 1499 := fun j => hT.2 35 j
          have A36 : ∀ j, 0 ≤ τ7.2.1 36 j ∧ τ7.2.1 36 j ≤ 20000 := fun j => hT.2 36 j
          have A37 : ∀ j, 0 ≤ τ7.2.1 37 j ∧ τ7.2.1 37 j ≤ 19999 := fun j => hT.2 37 j
          have A44 : ∀ j, 0 ≤ τ7.2.1 44 j ∧ τ7.2.1 44 j ≤ 42000 := fun j => hT.2 44 j
          have A45 : ∀ j, 0 ≤ τ7.2.1 45 j ∧ τ7.2.1 45 j ≤ 1000 := fun j => hT.2 45 j
          have A49 : ∀ j, (-300) ≤ τ7.2.1 49 j ∧ τ7.2.1 49 j ≤ 67035 := fun j => hT.2 49 j
          have A51 : ∀ j, 0 ≤ τ7.2.1 51 j ∧ τ7.2.1 51 j ≤ 1499 := fun j => hT.2 51 j
          have A54 : ∀ j, 0 ≤ τ7.2.1 54 j ∧ τ7.2.1 54 j ≤ 999 := fun j => hT.2 54 j
          have v3 : 0 ≤ τ7.1 3 ∧ τ7.1 3 ≤ 2500 := hT.1 3
          have v4 : 0 ≤ τ7.1 4 ∧ τ7.1 4 ≤ 100 := hT.1 4
          have v5 : 0 ≤ τ7.1 5 ∧ τ7.1 5 ≤ 1000 := hT.1 5
          have v6 : 0 ≤ τ7.1 6 ∧ τ7.1 6 ≤ 30000 := hT.1 6
          have v7 : 0 ≤ τ7.1 7 ∧ τ7.1 7 ≤ 1500 := hT.1 7
          have v8 : 0 ≤ τ7.1 8 ∧ τ7.1 8 ≤ 1000 := hT.1 8
          have v9 : 0 ≤ τ7.1 9 ∧ τ7.1 9 ≤ 1500 := hT.1 9
          have v10 : 0 ≤ τ7.1 10 ∧ τ7.1 10 ≤ 1000 := hT.1 10
          have v11 : 0 ≤ τ7.1 11 ∧ τ7.1 11 ≤ 50 := hT.1 11
          have v12 : (-2147483648) ≤ τ7.1 12 ∧ τ7.1 12 ≤ 2147483647 := hT.1 12
          have v13 : 0 ≤ τ7.1 13 ∧ τ7.1 13 ≤ 90000 := hT.1 13
          have v14 : 0 ≤ τ7.1 14 ∧ τ7.1 14 ≤ 20000 := hT.1 14
          have v15 : 0 ≤ τ7.1 15 ∧ τ7.1 15 ≤ 20000 := hT.1 15
          have v16 : 0 ≤ τ7.1 16 ∧ τ7.1 16 ≤ 20000 := hT.1 16
          have v21 : 0 ≤ τ7.1 21 ∧ τ7.1 21 ≤ 20000 := hT.1 21
          have v22 : 0 ≤ τ7.1 22 ∧ τ7.1 22 ≤ 300 := hT.1 22
          have v23 : 0 ≤ τ7.1 23 ∧ τ7.1 23 ≤ 300 := hT.1 23
          have v24 : 0 ≤ τ7.1 24 ∧ τ7.1 24 ≤ 1499 := hT.1 24
          have v25 : 0 ≤ τ7.1 25 ∧ τ7.1 25 ≤ 3 := hT.1 25
          have v26 : 0 ≤ τ7.1 26 ∧ τ7.1 26 ≤ 5000010 := hT.1 26
          have v27 : 0 ≤ τ7.1 27 ∧ τ7.1 27 ≤ 1 := hT.1 27
          have v35 : 0 ≤ τ7.1 35 ∧ τ7.1 35 ≤ 7 := hT.1 35
          have v36 : 0 ≤ τ7.1 36 ∧ τ7.1 36 ≤ 1001 := hT.1 36
          have v37 : 0 ≤ τ7.1 37 ∧ τ7.1 37 ≤ 4 := hT.1 37
          have a13_7 : 0 ≤ τ7.2.1 13 (τ7.1 7) ∧ τ7.2.1 13 (τ7.1 7) ≤ 4 := hT.2 13 _
          have a14_7 : 0 ≤ τ7.2.1 14 (τ7.1 7) ∧ τ7.2.1 14 (τ7.1 7) ≤ 30000 := hT.2 14 _
          have a36_15 : 0 ≤ τ7.2.1 36 (τ7.1 15) ∧ τ7.2.1 36 (τ7.1 15) ≤ 20000 := hT.2 36 _
          have av7 : σ.1 7 ≤ τ7.1 7 := ag.1 7 (by decide)
          have av13 : σ.1 13 ≤ τ7.1 13 := ag.1 13 (by decide)
          have av14 : σ.1 14 ≤ τ7.1 14 := ag.1 14 (by decide)
          refine ⟨fun c8 => ?_, fun c8 => ?_⟩
          ·
            refine ⟨(⟨by (first | assumption | omega | (simp only [st_s] <;> omega) | fail), by (first | assumption | omega | (simp only [st_s] <;> omega) | fail)⟩ : rg (σ.1 7)), ?_⟩
            exact l_60 _ _ hT ag (show τ7.1 3 = σ.1 3 from by omega) (show τ7.1 4 = σ.1 4 from by omega) (show τ7.1 5 = σ.1 5 from by omega) (show τ7.1 6 = σ.1 6 from by omega) (show τ7.1 8 = σ.1 8 from by omega) (show τ7.1 10 = σ.1 10 from by omega) (show τ7.1 11 = σ.1 11 from by omega) (show τ7.1 15 = σ.1 15 from by omega) (show τ7.1 16 = σ.1 16 from by omega) (show τ7.1 21 = σ.1 21 from by omega) (show τ7.1 22 = σ.1 22 from by omega) (show τ7.1 23 = σ.1 23 from by omega) (show τ7.1 24 = σ.1 24 from by omega) (show τ7.1 25 = σ.1 25 from by omega) (show τ7.1 26 = σ.1 26 from by omega) (show τ7.1 27 = σ.1 27 from by omega) (show τ7.1 36 = σ.1 36 from by omega) (show τ7.1 37 = σ.1 37 from by omega) G2 G3 G4 G5 G6 G8 G10 G11 G14 G15 G16 G18 G20 G23 G24 G25 G33 G34 G35 G36 G37 G44 G45 G49 G51 G54 (show (σ.1 7) = (σ.1 7) from by (first | assumption | omega | (simp only [st_s] <;> omega) | fail)) (show ¬ (σ.1 37) = 3 from by (first | assumption | omega | (simp only [st_s] <;> omega) | fail)) (show 1 ≤ (σ.1 36) ∧ ((σ.1 37) = 0 → 2 ≤ (σ.1 36)) from by (first | assumption | omega | (simp only [st_s] <;> omega) | fail)) (show (σ.1 37) = 2 → J_f (σ.1 7) (τ7.1 13) (τ7.1 14) (τ7.2.1 13) (τ7.2.1 14) (τ7.2.1 15) (τ7.2.1 16) (τ7.2.1 27) (τ7.2.1 28) (τ7.2.1 29) (τ7.2.1 30) (τ7.2.1 31) (τ7.2.1 32) from by (first | (intro z; exfalso; omega) | exact fun _ => q5_7 c8 | fail)) (show (τ7.1 13) ≤ 60 * (σ.1 7) + 60 ∧ (¬ (σ.1 37) = 2 → (τ7.1 13) = (σ.1 13)) from by (first | assumption | omega | (simp only [st_s] <;> omega) | fail)) (show ∀ s : Int, τ7.2.1 26 s ≤ (τ7.1 12) from MT) (show (τ7.1 12) ≤ (σ.1 12) + 1 ∧ (τ7.1 7) = (σ.1 7) ∧ (τ7.1 9) = (σ.1 9) from by (first | assumption | omega | (simp only [st_s] <;> omega) | fail)) (show τ7.2.1 13 = σ.2.1 13 from by (first | rfl | exact g13_τ7 | fail)) (show τ7.2.1 9 = σ.2.1 9 from by (first | rfl | exact g9_τ7 | fail)) (show τ7.2.1 19 = σ.2.1 19 from by (first | rfl | exact g19_τ7 | fail)) (show τ7.2.1 22 = σ.2.1 22 from by (first | rfl | exact g22_τ7 | fail)) (show j_eq (σ.2.1 36 (σ.1 15)) (σ.2.1 37) (τ7.2.1 37) from CH) (show 5 ≤ (σ.1 35) from by (first | assumption | omega | (simp only [st_s] <;> omega) | fail))
          ·
            exact ⟨hT, (show 0 ≤ 5 ∧ 5 ≤ 19 from by (first | assumption | omega | (simp only [st_s] <;> omega) | fail)), (show J_ht (τ7.1 3) (τ7.2.1 2) (τ7.2.1 3) (τ7.2.1 5) (τ7.2.1 6) from HT), (show J_mn (τ7.1 3) (τ7.1 5) ((τ7.1 7) + 1) (τ7.2.1 4) from MN), (show J_rks (τ7.1 5) (τ7.1 4) (τ7.2.1 10) (τ7.2.1 11) from RKS), (show J_vs (τ7.1 8) (τ7.1 5) (τ7.2.1 20) from VS), (show J_vs (τ7.1 6) (τ7.1 5) (τ7.2.1 15) from TX), (show J_va (τ7.1 8) 1000 (τ7.2.1 18) (τ7.2.1 20) from VA), (show J_mk (τ7.1 11) (τ7.1 8) (τ7.1 9) (τ7.1 10) (τ7.2.1 25) from MK), (show J_sc (τ7.1 7) (τ7.1 9) (τ7.2.1 13) (τ7.2.1 14) (τ7.2.1 15) (τ7.2.1 16) (τ7.2.1 22) (τ7.2.1 19) from SC), (show J_ff (τ7.1 5) (τ7.1 7) (τ7.2.1 9) (τ7.2.1 13) (τ7.2.1 14) (τ7.2.1 15) from FF), (show ∀ s : Int, τ7.2.1 26 s ≤ (τ7.1 12) from MT), (show J_all (τ7.1 7) (τ7.1 6) (τ7.1 13) (τ7.1 14) (τ7.1 15) (τ7.2.1 13) (τ7.2.1 14) (τ7.2.1 15) (τ7.2.1 16) (τ7.2.1 10) (τ7.2.1 27) (τ7.2.1 28) (τ7.2.1 29) (τ7.2.1 30) (τ7.2.1 31) (τ7.2.1 32) (τ7.2.1 33) (τ7.2.1 34) (τ7.2.1 35) (τ7.2.1 36) (τ7.2.1 37) from by (first | exact CJ | exact c_J_ag CJ_0 hT0 ag (by omega) (by first | exact j_rr0 _ _ | (rw [G10]; exact j_rr0 _ _)) TX_0 CH (by omega) | fail)), (show J_bp (τ7.2.1 44) (τ7.2.1 45) from BP), (show J_nl (τ7.1 3) (τ7.2.1 2) (τ7.2.1 3) (τ7.2.1 4) from NL), (show 5 = 0 → J_rs (τ7.1 35) (τ7.1 7) (τ7.1 6) (τ7.1 36) (τ7.1 37) (τ7.1 5) (τ7.1 8) (τ7.2.1 14) from by (first | (intro z; exfalso; omega) | (intro z; unfold J_rs; rw [G14]; first | rw [show τ16.1 7 = σ.1 7 + 1 from by omega] | rw [show τ12.1 7 = σ.1 7 + 1 from by omega]; omega) | fail)), (show 5 = 0 → 5 ≤ (τ7.1 35) → 1 ≤ (τ7.1 36) → 0 ≤ τ7.2.1 10 (τ7.2.1 15 (τ7.2.1 14 (τ7.1 7))) from by (first | (intro z; exfalso; omega) | (intro z y; exfalso; omega) | exact fun _ => uc | (intro z y y2; exact uc (by omega) (by omega)) | (intro z y y2; exfalso; omega) | (intro z y y2; rw [G10, G14, G15, W7]; exact uc (by omega) (by omega)) | fail)), (show 5 = 0 → (τ7.1 35) = 4 → j_in (τ7.1 36) 1000 (τ7.2.1 54) from by (first | (intro z; exfalso; omega) | (intro z y; exfalso; omega) | exact fun _ => dj | fail)), (show 5 = 0 → 5 ≤ (τ7.1 35) → J_ip (τ7.1 7) (τ7.1 6) (τ7.1 37) (τ7.2.1 14) (τ7.2.1 15) (τ7.2.1 16) (τ7.2.1 19) from by (first | (intro z; exfalso; omega) | (intro z y; exfalso; omega) | exact fun _ => ipx | (intro z y; exact ipx (by omega)) | (intro z y; rw [W7, W6, W37, G14, G15, G16, G19]; exact ipx (by omega)) | fail)), (show 5 = 0 → ((τ7.1 35) ≤ 5 → (τ7.1 13) ≤ 60 * (τ7.1 7)) ∧ (τ7.1 13) ≤ 60 * (τ7.1 7) + 60 from by (intro z; omega)), (show 5 = 0 → 6 ≤ (τ7.1 35) → (τ7.1 24) = (τ7.1 7) ∧ J_f (τ7.1 7) (τ7.1 13) (τ7.1 14) (τ7.2.1 13) (τ7.2.1 14) (τ7.2.1 15) (τ7.2.1 16) (τ7.2.1 27) (τ7.2.1 28) (τ7.2.1 29) (τ7.2.1 30) (τ7.2.1 31) (τ7.2.1 32) from by (first | (intro z; exfalso; omega) | (intro z y; exfalso; omega) | exact fun _ => frx | (intro z y; exact frx (by omega)) | (intro z y; have w := frx (by omega); rw [W7, W13, W14, W24, G13, G14, G15, G16, G27, G28, G29, G30, G31, G32]; exact w) | fail)), (show 5 = 0 → 6 ≤ (τ7.1 35) → J_sp (τ7.1 24) (τ7.1 21) (τ7.1 23) (τ7.1 22) (τ7.2.1 49) (τ7.2.1 51) ∧ ((τ7.1 16) + (τ7.1 21) ≤ 20000) ∧ (¬ (τ7.1 27) = 0 → 1 ≤ (τ7.1 21) ∧ 0 ≤ τ7.2.1 49 ((τ7.1 21) - 1) ∧ τ7.2.1 49 ((τ7.1 21) - 1) < 65536) ∧ ((τ7.1 26) ≤ 1000000) ∧ ((τ7.1 25) ≤ 2 → (τ7.1 27) = 0) from by (first | (intro z; exfalso; omega) | (intro z y; exfalso; omega) | exact fun _ => spx | (intro z y; exact spx (by omega)) | fail)), (show 5 = 0 → (τ7.1 15) ≤ (τ7.1 16) ∧ τ7.2.1 36 (τ7.1 15) ≤ (τ7.1 16) from by (intro z; first | exact sux | omega)), (show 5 = 0 → (τ7.1 9) ≤ (τ7.1 7) from by (intro z; omega)), (show j_rr ((σ.1 5)) (σ.2.1 10) (τ7.2.1 10) from by (first | exact j_rr0 _ _ | (rw [G10]; exact j_rr0 _ _) | fail)), (show j_eq (σ.2.1 36 (σ.1 15)) (σ.2.1 37) (τ7.2.1 37) from CH), (show (τ7.1 12) ≤ (σ.1 12) + 1 from by (first | assumption | omega | (simp only [st_s] <;> omega) | fail)), (show c_Y σ τ7 from by (first | exact c_Y0 _ | exact c_Y_g W4 G11 G20 G22 G25 | exact c_Y_g (by omega) G11 G20 (by rw [g22_τ7]) G25 | exact c_Y_g (by omega) G11 G20 (by rw [g22_τ12]; exact i60_11) G25 | exact ⟨⟨by rw [G20]; exact j_eq0 _ _, by rw [q14_2, g22_τ12, i60_11]; exact j_eqs (j_eq0 _ _) (by omega), by rw [G11]; exact j_eq0 _ _, by omega⟩, by rw [G25], by rw [G25], by rw [G25]⟩ | fail)), ag⟩
      ·
        exact ⟨hT, (show 0 ≤ 4 ∧ 4 ≤ 19 from by (first | assumption | omega | (simp only [st_s] <;> omega) | fail)), (show J_ht (σ.1 3) (σ.2.1 2) (σ.2.1 3) (σ.2.1 5) (σ.2.1 6) from HT), (show J_mn (σ.1 3) (σ.1 5) ((σ.1 7) + 1) (σ.2.1 4) from MN), (show J_rks (σ.1 5) (σ.1 4) (σ.2.1 10) (σ.2.1 11) from RKS), (show J_vs (σ.1 8) (σ.1 5) (σ.2.1 20) from VS), (show J_vs (σ.1 6) (σ.1 5) (σ.2.1 15) from TX), (show J_va (σ.1 8) 1000 (σ.2.1 18) (σ.2.1 20) from VA), (show J_mk (σ.1 11) (σ.1 8) (σ.1 9) (σ.1 10) (σ.2.1 25) from MK), (show J_sc (σ.1 7) (σ.1 9) (σ.2.1 13) (σ.2.1 14) (σ.2.1 15) (σ.2.1 16) (σ.2.1 22) (σ.2.1 19) from SC), (show J_ff (σ.1 5) (σ.1 7) (σ.2.1 9) (σ.2.1 13) (σ.2.1 14) (σ.2.1 15) from FF), (show ∀ s : Int, σ.2.1 26 s ≤ (σ.1 12) from MT), (show J_all (σ.1 7) (σ.1 6) (σ.1 13) (σ.1 14) (σ.1 15) (σ.2.1 13) (σ.2.1 14) (σ.2.1 15) (σ.2.1 16) (σ.2.1 10) (σ.2.1 27) (σ.2.1 28) (σ.2.1 29) (σ.2.1 30) (σ.2.1 31) (σ.2.1 32) (σ.2.1 33) (σ.2.1 34) (σ.2.1 35) (σ.2.1 36) (σ.2.1 37) from CJ), (show J_bp (σ.2.1 44) (σ.2.1 45) from BP), (show J_nl (σ.1 3) (σ.2.1 2) (σ.2.1 3) (σ.2.1 4) from NL), (show 4 = 0 → J_rs (σ.1 35) (σ.1 7) (σ.1 6) (σ.1 36) (σ.1 37) (σ.1 5) (σ.1 8) (σ.2.1 14) from by (first | (intro z; exfalso; omega) | (intro z; unfold J_rs; rw [G14]; first | rw [show τ16.1 7 = σ.1 7 + 1 from by omega] | rw [show τ12.1 7 = σ.1 7 + 1 from by omega]; omega) | fail)), (show 4 = 0 → 5 ≤ (σ.1 35) → 1 ≤ (σ.1 36) → 0 ≤ σ.2.1 10 (σ.2.1 15 (σ.2.1 14 (σ.1 7))) from by (first | (intro z; exfalso; omega) | (intro z y; exfalso; omega) | exact fun _ => uc | (intro z y y2; exact uc (by omega) (by omega)) | (intro z y y2; exfalso; omega) | (intro z y y2; rw [G10, G14, G15, W7]; exact uc (by omega) (by omega)) | fail)), (show 4 = 0 → (σ.1 35) = 4 → j_in (σ.1 36) 1000 (σ.2.1 54) from by (first | (intro z; exfalso; omega) | (intro z y; exfalso; omega) | exact fun _ => dj | fail)), (show 4 = 0 → 5 ≤ (σ.1 35) → J_ip (σ.1 7) (σ.1 6) (σ.1 37) (σ.2.1 14) (σ.2.1 15) (σ.2.1 16) (σ.2.1 19) from by (first | (intro z; exfalso; omega) | (intro z y; exfalso; omega) | exact fun _ => ipx | (intro z y; exact ipx (by omega)) | (intro z y; rw [W7, W6, W37, G14, G15, G16, G19]; exact ipx (by omega)) | fail)), (show 4 = 0 → ((σ.1 35) ≤ 5 → (σ.1 13) ≤ 60 * (σ.1 7)) ∧ (σ.1 13) ≤ 60 * (σ.1 7) + 60 from by (intro z; omega)), (show 4 = 0 → 6 ≤ (σ.1 35) → (σ.1 24) = (σ.1 7) ∧ J_f (σ.1 7) (σ.1 13) (σ.1 14) (σ.2.1 13) (σ.2.1 14) (σ.2.1 15) (σ.2.1 16) (σ.2.1 27) (σ.2.1 28) (σ.2.1 29) (σ.2.1 30) (σ.2.1 31) (σ.2.1 32) from by (first | (intro z; exfalso; omega) | (intro z y; exfalso; omega) | exact fun _ => frx | (intro z y; exact frx (by omega)) | (intro z y; have w := frx (by omega); rw [W7, W13, W14, W24, G13, G14, G15, G16, G27, G28, G29, G30, G31, G32]; exact w) | fail)), (show 4 = 0 → 6 ≤ (σ.1 35) → J_sp (σ.1 24) (σ.1 21) (σ.1 23) (σ.1 22) (σ.2.1 49) (σ.2.1 51) ∧ ((σ.1 16) + (σ.1 21) ≤ 20000) ∧ (¬ (σ.1 27) = 0 → 1 ≤ (σ.1 21) ∧ 0 ≤ σ.2.1 49 ((σ.1 21) - 1) ∧ σ.2.1 49 ((σ.1 21) - 1) < 65536) ∧ ((σ.1 26) ≤ 1000000) ∧ ((σ.1 25) ≤ 2 → (σ.1 27) = 0) from by (first | (intro z; exfalso; omega) | (intro z y; exfalso; omega) | exact fun _ => spx | (intro z y; exact spx (by omega)) | fail)), (show 4 = 0 → (σ.1 15) ≤ (σ.1 16) ∧ σ.2.1 36 (σ.1 15) ≤ (σ.1 16) from by (intro z; first | exact sux | omega)), (show 4 = 0 → (σ.1 9) ≤ (σ.1 7) from by (intro z; omega)), (show j_rr ((σ.1 5)) (σ.2.1 10) (σ.2.1 10) from by (first | exact j_rr0 _ _ | (rw [G10]; exact j_rr0 _ _) | fail)), (show j_eq (σ.2.1 36 (σ.1 15)) (σ.2.1 37) (σ.2.1 37) from CH), (show (σ.1 12) ≤ (σ.1 12) + 1 from by (first | assumption | omega | (simp only [st_s] <;> omega) | fail)), (show c_Y σ σ from by (first | exact c_Y0 _ | exact c_Y_g W4 G11 G20 G22 G25 | exact c_Y_g (by omega) G11 G20 (by rw [g22_τ7]) G25 | exact c_Y_g (by omega) G11 G20 (by rw [g22_τ12]; exact i60_11) G25 | exact ⟨⟨by rw [G20]; exact j_eq0 _ _, by rw [q14_2, g22_τ12, i60_11]; exact j_eqs (j_eq0 _ _) (by omega), by rw [G11]; exact j_eq0 _ _, by omega⟩, by rw [G25], by rw [G25], by rw [G25]⟩ | fail)), ag⟩
  ·
    refine h12 _ _ ?_
    refine ⟨fun c2 => ?_, fun c2 => ?_⟩
    ·
      exact ⟨hT, (show 0 ≤ 4 ∧ 4 ≤ 19 from by (first | assumption | omega | (simp only [st_s] <;> omega) | fail)), (show J_ht (σ.1 3) (σ.2.1 2) (σ.2.1 3) (σ.2.1 5) (σ.2.1 6) from HT), (show J_mn (σ.1 3) (σ.1 5) ((σ.1 7) + 1) (σ.2.1 4) from MN), (show J_rks (σ.1 5) (σ.1 4) (σ.2.1 10) (σ.2.1 11) from RKS), (show J_vs (σ.1 8) (σ.1 5) (σ.2.1 20) from VS), (show J_vs (σ.1 6) (σ.1 5) (σ.2.1 15) from TX), (show J_va (σ.1 8) 1000 (σ.2.1 18) (σ.2.1 20) from VA), (show J_mk (σ.1 11) (σ.1 8) (σ.1 9) (σ.1 10) (σ.2.1 25) from MK), (show J_sc (σ.1 7) (σ.1 9) (σ.2.1 13) (σ.2.1 14) (σ.2.1 15) (σ.2.1 16) (σ.2.1 22) (σ.2.1 19) from SC), (show J_ff (σ.1 5) (σ.1 7) (σ.2.1 9) (σ.2.1 13) (σ.2.1 14) (σ.2.1 15) from FF), (show ∀ s : Int, σ.2.1 26 s ≤ (σ.1 12) from MT), (show J_all (σ.1 7) (σ.1 6) (σ.1 13) (σ.1 14) (σ.1 15) (σ.2.1 13) (σ.2.1 14) (σ.2.1 15) (σ.2.1 16) (σ.2.1 10) (σ.2.1 27) (σ.2.1 28) (σ.2.1 29) (σ.2.1 30) (σ.2.1 31) (σ.2.1 32) (σ.2.1 33) (σ.2.1 34) (σ.2.1 35) (σ.2.1 36) (σ.2.1 37) from CJ), (show J_bp (σ.2.1 44) (σ.2.1 45) from BP), (show J_nl (σ.1 3) (σ.2.1 2) (σ.2.1 3) (σ.2.1 4) from NL), (show 4 = 0 → J_rs (σ.1 35) (σ.1 7) (σ.1 6) (σ.1 36) (σ.1 37) (σ.1 5) (σ.1 8) (σ.2.1 14) from by (first | (intro z; exfalso; omega) | (intro z; unfold J_rs; rw [G14]; first | rw [show τ16.1 7 = σ.1 7 + 1 from by omega] | rw [show τ12.1 7 = σ.1 7 + 1 from by omega]; omega) | fail)), (show 4 = 0 → 5 ≤ (σ.1 35) → 1 ≤ (σ.1 36) → 0 ≤ σ.2.1 10 (σ.2.1 15 (σ.2.1 14 (σ.1 7))) from by (first | (intro z; exfalso; omega) | (intro z y; exfalso; omega) | exact fun _ => uc | (intro z y y2; exact uc (by omega) (by omega)) | (intro z y y2; exfalso; omega) | (intro z y y2; rw [G10, G14, G15, W7]; exact uc (by omega) (by omega)) | fail)), (show 4 = 0 → (σ.1 35) = 4 → j_in (σ.1 36) 1000 (σ.2.1 54) from by (first | (intro z; exfalso; omega) | (intro z y; exfalso; omega) | exact fun _ => dj | fail)), (show 4 = 0 → 5 ≤ (σ.1 35) → J_ip (σ.1 7) (σ.1 6) (σ.1 37) (σ.2.1 14) (σ.2.1 15) (σ.2.1 16) (σ.2.1 19) from by (first | (intro z; exfalso; omega) | (intro z y; exfalso; omega) | exact fun _ => ipx | (intro z y; exact ipx (by omega)) | (intro z y; rw [W7, W6, W37, G14, G15, G16, G19]; exact ipx (by omega)) | fail)), (show 4 = 0 → ((σ.1 35) ≤ 5 → (σ.1 13) ≤ 60 * (σ.1 7)) ∧ (σ.1 13) ≤ 60 * (σ.1 7) + 60 from by (intro z; omega)), (show 4 = 0 → 6 ≤ (σ.1 35) → (σ.1 24) = (σ.1 7) ∧ J_f (σ.1 7) (σ.1 13) (σ.1 14) (σ.2.1 13) (σ.2.1 14) (σ.2.1 15) (σ.2.1 16) (σ.2.1 27) (σ.2.1 28) (σ.2.1 29) (σ.2.1 30) (σ.2.1 31) (σ.2.1 32) from by (first | (intro z; exfalso; omega) | (intro z y; exfalso; omega) | exact fun _ => frx | (intro z y; exact frx (by omega)) | (intro z y; have w := frx (by omega); rw [W7, W13, W14, W24, G13, G14, G15, G16, G27, G28, G29, G30, G31, G32]; exact w) | fail)), (show 4 = 0 → 6 ≤ (σ.1 35) → J_sp (σ.1 24) (σ.1 21) (σ.1 23) (σ.1 22) (σ.2.1 49) (σ.2.1 51) ∧ ((σ.1 16) + (σ.1 21) ≤ 20000) ∧ (¬ (σ.1 27) = 0 → 1 ≤ (σ.1 21) ∧ 0 ≤ σ.2.1 49 ((σ.1 21) - 1) ∧ σ.2.1 49 ((σ.1 21) - 1) < 65536) ∧ ((σ.1 26) ≤ 1000000) ∧ ((σ.1 25) ≤ 2 → (σ.1 27) = 0) from by (first | (intro z; exfalso; omega) | (intro z y; exfalso; omega) | exact fun _ => spx | (intro z y; exact spx (by omega)) | fail)), (show 4 = 0 → (σ.1 15) ≤ (σ.1 16) ∧ σ.2.1 36 (σ.1 15) ≤ (σ.1 16) from by (intro z; first | exact sux | omega)), (show 4 = 0 → (σ.1 9) ≤ (σ.1 7) from by (intro z; omega)), (show j_rr ((σ.1 5)) (σ.2.1 10) (σ.2.1 10) from by (first | exact j_rr0 _ _ | (rw [G10]; exact j_rr0 _ _) | fail)), (show j_eq (σ.2.1 36 (σ.1 15)) (σ.2.1 37) (σ.2.1 37) from CH), (show (σ.1 12) ≤ (σ.1 12) + 1 from by (first | assumption | omega | (simp only [st_s] <;> omega) | fail)), (show c_Y σ σ from by (first | exact c_Y0 _ | exact c_Y_g W4 G11 G20 G22 G25 | exact c_Y_g (by omega) G11 G20 (by rw [g22_τ7]) G25 | exact c_Y_g (by omega) G11 G20 (by rw [g22_τ12]; exact i60_11) G25 | exact ⟨⟨by rw [G20]; exact j_eq0 _ _, by rw [q14_2, g22_τ12, i60_11]; exact j_eqs (j_eq0 _ _) (by omega), by rw [G11]; exact j_eq0 _ _, by omega⟩, by rw [G25], by rw [G25], by rw [G25]⟩ | fail)), ag⟩
    ·
      refine ⟨fun c3 => ?_, fun c3 => ?_⟩
      ·
        refine ⟨fun c4 => ?_, fun c4 => ?_⟩
        ·
          exact l_60 _ _ hT ag (show σ.1 3 = σ.1 3 from by omega) (show σ.1 4 = σ.1 4 from by omega) (show σ.1 5 = σ.1 5 from by omega) (show σ.1 6 = σ.1 6 from by omega) (show σ.1 8 = σ.1 8 from by omega) (show σ.1 10 = σ.1 10 from by omega) (show σ.1 11 = σ.1 11 from by omega) (show σ.1 15 = σ.1 15 from by omega) (show σ.1 16 = σ.1 16 from by omega) (show σ.1 21 = σ.1 21 from by omega) (show σ.1 22 = σ.1 22 from by omega) (show σ.1 23 = σ.1 23 from by omega) (show σ.1 24 = σ.1 24 from by omega) (show σ.1 25 = σ.1 25 from by omega) (show σ.1 26 = σ.1 26 from by omega) (show σ.1 27 = σ.1 27 from by omega) (show σ.1 36 = σ.1 36 from by omega) (show σ.1 37 = σ.1 37 from by omega) G2 G3 G4 G5 G6 G8 G10 G11 G14 G15 G16 G18 G20 G23 G24 G25 G33 G34 G35 G36 G37 G44 G45 G49 G51 G54 (show (σ.1 7) = (σ.1 7) from by (first | assumption | omega | (simp only [st_s] <;> omega) | fail)) (show ¬ (σ.1 37) = 3 from by (first | assumption | omega | (simp only [st_s] <;> omega) | fail)) (show 1 ≤ (σ.1 36) ∧ ((σ.1 37) = 0 → 2 ≤ (σ.1 36)) from by (first | assumption | omega | (simp only [st_s] <;> omega) | fail)) (show (σ.1 37) = 2 → J_f (σ.1 7) (σ.1 13) (σ.1 14) (σ.2.1 13) (σ.2.1 14) (σ.2.1 15) (σ.2.1 16) (σ.2.1 27) (σ.2.1 28) (σ.2.1 29) (σ.2.1 30) (σ.2.1 31) (σ.2.1 32) from by (first | (intro z; exfalso; omega) | exact fun _ => q5_7 c8 | fail)) (show (σ.1 13) ≤ 60 * (σ.1 7) + 60 ∧ (¬ (σ.1 37) = 2 → (σ.1 13) = (σ.1 13)) from by (first | assumption | omega | (simp only [st_s] <;> omega) | fail)) (show ∀ s : Int, σ.2.1 26 s ≤ (σ.1 12) from MT) (show (σ.1 12) ≤ (σ.1 12) + 1 ∧ (σ.1 7) = (σ.1 7) ∧ (σ.1 9) = (σ.1 9) from by (first | assumption | omega | (simp only [st_s] <;> omega) | fail)) (show σ.2.1 13 = σ.2.1 13 from by (first | rfl | exact g13_τ7 | fail)) (show σ.2.1 9 = σ.2.1 9 from by (first | rfl | exact g9_τ7 | fail)) (show σ.2.1 19 = σ.2.1 19 from by (first | rfl | exact g19_τ7 | fail)) (show σ.2.1 22 = σ.2.1 22 from by (first | rfl | exact g22_τ7 | fail)) (show j_eq (σ.2.1 36 (σ.1 15)) (σ.2.1 37) (σ.2.1 37) from CH) (show 5 ≤ (σ.1 35) from by (first | assumption | omega | (simp only [st_s] <;> omega) | fail))
        ·
          refine ⟨_, K_X0_makeFrame hT (show 0 ≤ (σ.1 7) from by (first | assumption | omega | (simp only [st_s] <;> omega) | fail)) (show (σ.1 7) < 1500 from by (first | assumption | omega | (simp only [st_s] <;> omega) | fail)) (show (σ.1 7) = (σ.1 7) from by (first | assumption | omega | (simp only [st_s] <;> omega) | fail)) (show (σ.1 13) ≤ 60 * (σ.1 7) from by (first | assumption | omega | (simp only [st_s] <;> omega) | fail)) (show J_hfa (σ.1 9) (σ.2.1 13) (σ.2.1 14) (σ.2.1 22) from by exact JFx) (show (σ.1 12) < 2147483647 from by (first | assumption | omega | (simp only [st_s] <;> omega) | fail)) (show J_sc (σ.1 7) (σ.1 9) (σ.2.1 13) (σ.2.1 14) (σ.2.1 15) (σ.2.1 16) (σ.2.1 22) (σ.2.1 19) from SC) (show J_ip (σ.1 7) (σ.1 6) (σ.1 37) (σ.2.1 14) (σ.2.1 15) (σ.2.1 16) (σ.2.1 19) from by exact ipx (by omega)) (show ¬ (σ.1 37) = 0 from by (first | assumption | omega | (simp only [st_s] <;> omega) | fail)) (show σ.2.1 14 ((σ.1 7) + 1) = (σ.1 6) from by (first | assumption | omega | (simp only [st_s] <;> omega) | fail)) (show σ.2.1 14 (σ.1 7) ≤ (σ.1 6) from by (first | assumption | omega | (simp only [st_s] <;> omega) | fail)) (show ∀ i : Int, 0 ≤ i → i < (σ.1 7) → J_t i (σ.1 6) (σ.2.1 13) (σ.2.1 14) (σ.2.1 15) (σ.2.1 16) (σ.2.1 10) from by exact jt) (show ∀ s : Int, σ.2.1 26 s ≤ (σ.1 12) from MT), ?_⟩
          intro x6 τ7 r_x6 hn_τ7 hf_τ7 hq
          obtain ⟨hT, q5_1, q5_2, q5_3, q5_4, q5_5, q5_6, q5_7, q5_8⟩ := hq
          replace q5_1 : 0 ≤ x6 ∧ x6 ≤ 1 := q5_1
          replace q5_2 : τ7.2.1 27 (σ.1 7) + τ7.2.1 28 (σ.1 7) = (τ7.1 13) := q5_2
          replace q5_3 : (τ7.1 13) ≤ 60 * (σ.1 7) + 60 := q5_3
          replace q5_4 : ¬ x6 = 0 → τ7.2.1 30 (σ.1 7) + τ7.2.1 31 (σ.1 7) = (τ7.1 14) := q5_4
          replace q5_5 : (τ7.1 12) = (σ.1 12) + 1 := q5_5
          replace q5_6 : ∀ s : Int, τ7.2.1 26 s ≤ (τ7.1 12) := q5_6
          replace q5_7 : ¬ x6 = 0 → J_f (σ.1 7) (τ7.1 13) (τ7.1 14) (τ7.2.1 13) (τ7.2.1 14) (τ7.2.1 15) (τ7.2.1 16) (τ7.2.1 27) (τ7.2.1 28) (τ7.2.1 29) (τ7.2.1 30) (τ7.2.1 31) (τ7.2.1 32) := q5_7
          replace q5_8 : c_ag σ τ7 := q5_8
          replace ag : c_ag σ τ7 := ag_t ag q5_8 rfl
          have w3_τ7 : τ7.1 3 = σ.1 3 := hf_τ7.1 3 (by decide)
          have w4_τ7 : τ7.1 4 = σ.1 4 := hf_τ7.1 4 (by decide)
          have w5_τ7 : τ7.1 5 = σ.1 5 := hf_τ7.1 5 (by decide)
          have w6_τ7 : τ7.1 6 = σ.1 6 := hf_τ7.1 6 (by decide)
          have w7_τ7 : τ7.1 7 = σ.1 7 := hf_τ7.1 7 (by decide)
          have w8_τ7 : τ7.1 8 = σ.1 8 := hf_τ7.1 8 (by decide)
          have w9_τ7 : τ7.1 9 = σ.1 9 := hf_τ7.1 9 (by decide)
          have w10_τ7 : τ7.1 10 = σ.1 10 := hf_τ7.1 10 (by decide)
          have w11_τ7 : τ7.1 11 = σ.1 11 := hf_τ7.1 11 (by decide)
          have w15_τ7 : τ7.1 15 = σ.1 15 := hf_τ7.1 15 (by decide)
          have w16_τ7 : τ7.1 16 = σ.1 16 := hf_τ7.1 16 (by decide)
          have w21_τ7 : τ7.1 21 = σ.1 21 := hf_τ7.1 21 (by decide)
          have w22_τ7 : τ7.1 22 = σ.1 22 := hf_τ7.1 22 (by decide)
          have w23_τ7 : τ7.1 23 = σ.1 23 := hf_τ7.1 23 (by decide)
          have w24_τ7 : τ7.1 24 = σ.1 24 := hf_τ7.1 24 (by decide)
          have w25_τ7 : τ7.1 25 = σ.1 25 := hf_τ7.1 25 (by decide)
          have w26_τ7 : τ7.1 26 = σ.1 26 := hf_τ7.1 26 (by decide)
          have w27_τ7 : τ7.1 27 = σ.1 27 := hf_τ7.1 27 (by decide)
          have w35_τ7 : τ7.1 35 = σ.1 35 := hf_τ7.1 35 (by decide)
          have w36_τ7 : τ7.1 36 = σ.1 36 := hf_τ7.1 36 (by decide)
          have w37_τ7 : τ7.1 37 = σ.1 37 := hf_τ7.1 37 (by decide)
          have g2_τ7 : τ7.2.1 2 = σ.2.1 2 := hf_τ7.2.1 2 (by decide)
          have g3_τ7 : τ7.2.1 3 = σ.2.1 3 := hf_τ7.2.1 3 (by decide)
          have g4_τ7 : τ7.2.1 4 = σ.2.1 4 := hf_τ7.2.1 4 (by decide)
          have g5_τ7 : τ7.2.1 5 = σ.2.1 5 := hf_τ7.2.1 5 (by decide)
          have g6_τ7 : τ7.2.1 6 = σ.2.1 6 := hf_τ7.2.1 6 (by decide)
          have g8_τ7 : τ7.2.1 8 = σ.2.1 8 := hf_τ7.2.1 8 (by decide)
          have g9_τ7 : τ7.2.1 9 = σ.2.1 9 := hf_τ7.2.1 9 (by decide)
          have g10_τ7 : τ7.2.1 10 = σ.2.1 10 := hf_τ7.2.1 10 (by decide)
          have g11_τ7 : τ7.2.1 11 = σ.2.1 11 := hf_τ7.2.1 11 (by decide)
          have g13_τ7 : τ7.2.1 13 = σ.2.1 13 := hf_τ7.2.1 13 (by decide)
          have g14_τ7 : τ7.2.1 14 = σ.2.1 14 := hf_τ7.2.1 14 (by decide)
          have g15_τ7 : τ7.2.1 15 = σ.2.1 15 := hf_τ7.2.1 15 (by decide)
          have g16_τ7 : τ7.2.1 16 = σ.2.1 16 := hf_τ7.2.1 16 (by decide)
          have g18_τ7 : τ7.2.1 18 = σ.2.1 18 := hf_τ7.2.1 18 (by decide)
          have g19_τ7 : τ7.2.1 19 = σ.2.1 19 := hf_τ7.2.1 19 (by decide)
          have g20_τ7 : τ7.2.1 20 = σ.2.1 20 := hf_τ7.2.1 20 (by decide)
          have g22_τ7 : τ7.2.1 22 = σ.2.1 22 := hf_τ7.2.1 22 (by decide)
          have g23_τ7 : τ7.2.1 23 = σ.2.1 23 := hf_τ7.2.1 23 (by decide)
          have g24_τ7 : τ7.2.1 24 = σ.2.1 24 := hf_τ7.2.1 24 (by decide)
          have g25_τ7 : τ7.2.1 25 = σ.2.1 25 := hf_τ7.2.1 25 (by decide)
          have g33_τ7 : τ7.2.1 33 = σ.2.1 33 := hf_τ7.2.1 33 (by decide)
          have g34_τ7 : τ7.2.1 34 = σ.2.1 34 := hf_τ7.2.1 34 (by decide)
          have g35_τ7 : τ7.2.1 35 = σ.2.1 35 := hf_τ7.2.1 35 (by decide)
          have g36_τ7 : τ7.2.1 36 = σ.2.1 36 := hf_τ7.2.1 36 (by decide)
          have g37_τ7 : τ7.2.1 37 = σ.2.1 37 := hf_τ7.2.1 37 (by decide)
          have g44_τ7 : τ7.2.1 44 = σ.2.1 44 := hf_τ7.2.1 44 (by decide)
          have g45_τ7 : τ7.2.1 45 = σ.2.1 45 := hf_τ7.2.1 45 (by decide)
          have g49_τ7 : τ7.2.1 49 = σ.2.1 49 := hf_τ7.2.1 49 (by decide)
          have g51_τ7 : τ7.2.1 51 = σ.2.1 51 := hf_τ7.2.1 51 (by decide)
          have g54_τ7 : τ7.2.1 54 = σ.2.1 54 := hf_τ7.2.1 54 (by decide)
          have W3 : τ7.1 3 = σ.1 3 := by omega
          have W4 : τ7.1 4 = σ.1 4 := by omega
          have W5 : τ7.1 5 = σ.1 5 := by omega
          have W6 : τ7.1 6 = σ.1 6 := by omega
          have W8 : τ7.1 8 = σ.1 8 := by omega
          have W10 : τ7.1 10 = σ.1 10 := by omega
          have W11 : τ7.1 11 = σ.1 11 := by omega
          have W15 : τ7.1 15 = σ.1 15 := by omega
          have W16 : τ7.1 16 = σ.1 16 := by omega
          have W21 : τ7.1 21 = σ.1 21 := by omega
          have W22 : τ7.1 22 = σ.1 22 := by omega
          have W23 : τ7.1 23 = σ.1 23 := by omega
          have W24 : τ7.1 24 = σ.1 24 := by omega
          have W25 : τ7.1 25 = σ.1 25 := by omega
          have W26 : τ7.1 26 = σ.1 26 := by omega
          have W27 : τ7.1 27 = σ.1 27 := by omega
          have W36 : τ7.1 36 = σ.1 36 := by omega
          have W37 : τ7.1 37 = σ.1 37 := by omega
          have G2 : τ7.2.1 2 = σ.2.1 2 := (g2_τ7).trans G2
          have G3 : τ7.2.1 3 = σ.2.1 3 := (g3_τ7).trans G3
          have G4 : τ7.2.1 4 = σ.2.1 4 := (g4_τ7).trans G4
          have G5 : τ7.2.1 5 = σ.2.1 5 := (g5_τ7).trans G5
          have G6 : τ7.2.1 6 = σ.2.1 6 := (g6_τ7).trans G6
          have G8 : τ7.2.1 8 = σ.2.1 8 := (g8_τ7).trans G8
          have G10 : τ7.2.1 10 = σ.2.1 10 := (g10_τ7).trans G10
          have G11 : τ7.2.1 11 = σ.2.1 11 := (g11_τ7).trans G11
          have G14 : τ7.2.1 14 = σ.2.1 14 := (g14_τ7).trans G14
          have G15 : τ7.2.1 15 = σ.2.1 15 := (g15_τ7).trans G15
          have G16 : τ7.2.1 16 = σ.2.1 16 := (g16_τ7).trans G16
          have G18 : τ7.2.1 18 = σ.2.1 18 := (g18_τ7).trans G18
          have G20 : τ7.2.1 20 = σ.2.1 20 := (g20_τ7).trans G20
          have G23 : τ7.2.1 23 = σ.2.1 23 := (g23_τ7).trans G23
          have G24 : τ7.2.1 24 = σ.2.1 24 := (g24_τ7).trans G24
          have G25 : τ7.2.1 25 = σ.2.1 25 := (g25_τ7).trans G25
          have G33 : τ7.2.1 33 = σ.2.1 33 := (g33_τ7).trans G33
          have G34 : τ7.2.1 34 = σ.2.1 34 := (g34_τ7).trans G34
          have G35 : τ7.2.1 35 = σ.2.1 35 := (g35_τ7).trans G35
          have G36 : τ7.2.1 36 = σ.2.1 36 := (g36_τ7).trans G36
          have G37 : τ7.2.1 37 = σ.2.1 37 := (g37_τ7).trans G37
          have G44 : τ7.2.1 44 = σ.2.1 44 := (g44_τ7).trans G44
          have G45 : τ7.2.1 45 = σ.2.1 45 := (g45_τ7).trans G45
          have G49 : τ7.2.1 49 = σ.2.1 49 := (g49_τ7).trans G49
          have G51 : τ7.2.1 51 = σ.2.1 51 := (g51_τ7).trans G51
          have G54 : τ7.2.1 54 = σ.2.1 54 := (g54_τ7).trans G54
          have y13_7_τ7 : τ7.2.1 13 (τ7.1 7) = (σ.2.1 13) (σ.1 7) := by rw [g13_τ7, w7_τ7]
          have y14_7_τ7 : τ7.2.1 14 (τ7.1 7) = (σ.2.1 14) (σ.1 7) := by rw [g14_τ7, w7_τ7]
          have y36_15_τ7 : τ7.2.1 36 (τ7.1 15) = (σ.2.1 36) (σ.1 15) := by rw [g36_τ7, w15_τ7]
          have HT : J_ht (τ7.1 3) (τ7.2.1 2) (τ7.2.1 3) (τ7.2.1 5) (τ7.2.1 6) := by rw [show (J_ht (τ7.1 3) (τ7.2.1 2) (τ7.2.1 3) (τ7.2.1 5) (τ7.2.1 6)) = (J_ht (σ.1 3) (σ.2.1 2) (σ.2.1 3) (σ.2.1 5) (σ.2.1 6)) from by rw [w3_τ7, g2_τ7, g3_τ7, g5_τ7, g6_τ7]]; exact HT
          have NL : J_nl (τ7.1 3) (τ7.2.1 2) (τ7.2.1 3) (τ7.2.1 4) := by rw [show (J_nl (τ7.1 3) (τ7.2.1 2) (τ7.2.1 3) (τ7.2.1 4)) = (J_nl (σ.1 3) (σ.2.1 2) (σ.2.1 3) (σ.2.1 4)) from by rw [w3_τ7, g2_τ7, g3_τ7, g4_τ7]]; exact NL
          have MN : J_mn (τ7.1 3) (τ7.1 5) ((τ7.1 7) + 1) (τ7.2.1 4) := by rw [show (J_mn (τ7.1 3) (τ7.1 5) ((τ7.1 7) + 1) (τ7.2.1 4)) = (J_mn (σ.1 3) (σ.1 5) ((σ.1 7) + 1) (σ.2.1 4)) from by rw [w3_τ7, w5_τ7, w7_τ7, g4_τ7]]; exact MN
          have VA : J_va (τ7.1 8) 1000 (τ7.2.1 18) (τ7.2.1 20) := by rw [show (J_va (τ7.1 8) 1000 (τ7.2.1 18) (τ7.2.1 20)) = (J_va (σ.1 8) 1000 (σ.2.1 18) (σ.2.1 20)) from by rw [w8_τ7, g18_τ7, g20_τ7]]; exact VA
          have SC : J_sc (τ7.1 7) (τ7.1 9) (τ7.2.1 13) (τ7.2.1 14) (τ7.2.1 15) (τ7.2.1 16) (τ7.2.1 22) (τ7.2.1 19) := by rw [show (J_sc (τ7.1 7) (τ7.1 9) (τ7.2.1 13) (τ7.2.1 14) (τ7.2.1 15) (τ7.2.1 16) (τ7.2.1 22) (τ7.2.1 19)) = (J_sc (σ.1 7) (σ.1 9) (σ.2.1 13) (σ.2.1 14) (σ.2.1 15) (σ.2.1 16) (σ.2.1 22) (σ.2.1 19)) from by rw [w7_τ7, w9_τ7, g13_τ7, g14_τ7, g15_τ7, g16_τ7, g19_τ7, g22_τ7]]; exact SC
          have MK : J_mk (τ7.1 11) (τ7.1 8) (τ7.1 9) (τ7.1 10) (τ7.2.1 25) := by rw [show (J_mk (τ7.1 11) (τ7.1 8) (τ7.1 9) (τ7.1 10) (τ7.2.1 25)) = (J_mk (σ.1 11) (σ.1 8) (σ.1 9) (σ.1 10) (σ.2.1 25)) from by rw [w8_τ7, w9_τ7, w10_τ7, w11_τ7, g25_τ7]]; exact MK
          have FF : J_ff (τ7.1 5) (τ7.1 7) (τ7.2.1 9) (τ7.2.1 13) (τ7.2.1 14) (τ7.2.1 15) := by rw [show (J_ff (τ7.1 5) (τ7.1 7) (τ7.2.1 9) (τ7.2.1 13) (τ7.2.1 14) (τ7.2.1 15)) = (J_ff (σ.1 5) (σ.1 7) (σ.2.1 9) (σ.2.1 13) (σ.2.1 14) (σ.2.1 15)) from by rw [w5_τ7, w7_τ7, g9_τ7, g13_τ7, g14_τ7, g15_τ7]]; exact FF
          have MT : ∀ s : Int, τ7.2.1 26 s ≤ (τ7.1 12) := q5_6
          have VS : J_vs (τ7.1 8) (τ7.1 5) (τ7.2.1 20) := by rw [show (J_vs (τ7.1 8) (τ7.1 5) (τ7.2.1 20)) = (J_vs (σ.1 8) (σ.1 5) (σ.2.1 20)) from by rw [w5_τ7, w8_τ7, g20_τ7]]; exact VS
          have TX : J_vs (τ7.1 6) (τ7.1 5) (τ7.2.1 15) := by rw [show (J_vs (τ7.1 6) (τ7.1 5) (τ7.2.1 15)) = (J_vs (σ.1 6) (σ.1 5) (σ.2.1 15)) from by rw [w5_τ7, w6_τ7, g15_τ7]]; exact TX
          have RKS : J_rks (τ7.1 5) (τ7.1 4) (τ7.2.1 10) (τ7.2.1 11) := by rw [show (J_rks (τ7.1 5) (τ7.1 4) (τ7.2.1 10) (τ7.2.1 11)) = (J_rks (σ.1 5) (σ.1 4) (σ.2.1 10) (σ.2.1 11)) from by rw [w4_τ7, w5_τ7, g10_τ7, g11_τ7]]; exact RKS
          have BP : J_bp (τ7.2.1 44) (τ7.2.1 45) := by rw [show (J_bp (τ7.2.1 44) (τ7.2.1 45)) = (J_bp (σ.2.1 44) (σ.2.1 45)) from by rw [g44_τ7, g45_τ7]]; exact BP
          have CH : j_eq (σ.2.1 36 (σ.1 15)) (σ.2.1 37) (τ7.2.1 37) := by rw [show (j_eq (σ.2.1 36 (σ.1 15)) (σ.2.1 37) (τ7.2.1 37)) = (j_eq (σ.2.1 36 (σ.1 15)) (σ.2.1 37) (σ.2.1 37)) from by rw [g37_τ7]]; exact CH
          have RS : J_rs (τ7.1 35) (τ7.1 7) (τ7.1 6) (τ7.1 36) (τ7.1 37) (τ7.1 5) (τ7.1 8) (τ7.2.1 14) := by rw [show (J_rs (τ7.1 35) (τ7.1 7) (τ7.1 6) (τ7.1 36) (τ7.1 37) (τ7.1 5) (τ7.1 8) (τ7.2.1 14)) = (J_rs (σ.1 35) (σ.1 7) (σ.1 6) (σ.1 36) (σ.1 37) (σ.1 5) (σ.1 8) (σ.2.1 14)) from by rw [w5_τ7, w6_τ7, w7_τ7, w8_τ7, w35_τ7, w36_τ7, w37_τ7, g14_τ7]]; exact RS
          have A2 : ∀ j, 0 ≤ τ7.2.1 2 j ∧ τ7.2.1 2 j ≤ 65535 := fun j => hT.2 2 j
          have A3 : ∀ j, 0 ≤ τ7.2.1 3 j ∧ τ7.2.1 3 j ≤ 30000 := fun j => hT.2 3 j
          have A4 : ∀ j, (-1000) ≤ τ7.2.1 4 j ∧ τ7.2.1 4 j ≤ 1499 := fun j => hT.2 4 j
          have A5 : ∀ j, 0 ≤ τ7.2.1 5 j ∧ τ7.2.1 5 j ≤ 2500 := fun j => hT.2 5 j
          have A6 : ∀ j, 0 ≤ τ7.2.1 6 j ∧ τ7.2.1 6 j ≤ 2500 := fun j => hT.2 6 j
          have A8 : ∀ j, 0 ≤ τ7.2.1 8 j ∧ τ7.2.1 8 j ≤ 1 := fun j => hT.2 8 j
          have A9 : ∀ j, (-1) ≤ τ7.2.1 9 j ∧ τ7.2.1 9 j ≤ 1499 := fun j => hT.2 9 j
          have A10 : ∀ j, (-1) ≤ τ7.2.1 10 j ∧ τ7.2.1 10 j ≤ 99 := fun j => hT.2 10 j
          have A11 : ∀ j, 0 ≤ τ7.2.1 11 j ∧ τ7.2.1 11 j ≤ 999 := fun j => hT.2 11 j
          have A13 : ∀ j, 0 ≤ τ7.2.1 13 j ∧ τ7.2.1 13 j ≤ 4 := fun j => hT.2 13 j
          have A14 : ∀ j, 0 ≤ τ7.2.1 14 j ∧ τ7.2.1 14 j ≤ 30000 := fun j => hT.2 14 j
          have A15 : ∀ j, 0 ≤ τ7.2.1 15 j ∧ τ7.2.1 15 j ≤ 999 := fun j => hT.2 15 j
          have A16 : ∀ j, (-1) ≤ τ7.2.1 16 j ∧ τ7.2.1 16 j ≤ 1499 := fun j => hT.2 16 j
          have A18 : ∀ j, 0 ≤ τ7.2.1 18 j ∧ τ7.2.1 18 j ≤ 1 := fun j => hT.2 18 j
          have A19 : ∀ j, (-1) ≤ τ7.2.1 19 j ∧ τ7.2.1 19 j ≤ 1499 := fun j => hT.2 19 j
          have A20 : ∀ j, 0 ≤ τ7.2.1 20 j ∧ τ7.2.1 20 j ≤ 999 := fun j => hT.2 20 j
          have A22 : ∀ j, 0 ≤ τ7.2.1 22 j ∧ τ7.2.1 22 j ≤ 1499 := fun j => hT.2 22 j
          have A23 : ∀ j, 0 ≤ τ7.2.1 23 j ∧ τ7.2.1 23 j ≤ 999 := fun j => hT.2 23 j
          have A24 : ∀ j, 0 ≤ τ7.2.1 24 j ∧ τ7.2.1 24 j ≤ 999 := fun j => hT.2 24 j
          have A26 : ∀ j, (-2147483648) ≤ τ7.2.1 26 j ∧ τ7.2.1 26 j ≤ 2147483647 := fun j => hT.2 26 j
          have A27 : ∀ j, 0 ≤ τ7.2.1 27 j ∧ τ7.2.1 27 j ≤ 90000 := fun j => hT.2 27 j
          have A28 : ∀ j, 0 ≤ τ7.2.1 28 j ∧ τ7.2.1 28 j ≤ 60 := fun j => hT.2 28 j
          have A29 : ∀ j, 0 ≤ τ7.2.1 29 j ∧ τ7.2.1 29 j ≤ 1499 := fun j => hT.2 29 j
          have A30 : ∀ j, 0 ≤ τ7.2.1 30 j ∧ τ7.2.1 30 j ≤ 20000 := fun j => hT.2 30 j
          have A31 : ∀ j, 0 ≤ τ7.2.1 31 j ∧ τ7.2.1 31 j ≤ 20000 := fun j => hT.2 31 j
          have A32 : ∀ j, 0 ≤ τ7.2.1 32 j ∧ τ7.2.1 32 j ≤ 999999 := fun j => hT.2 32 j
          have A33 : ∀ j, 0 ≤ τ7.2.1 33 j ∧ τ7.2.1 33 j ≤ 20000 := fun j => hT.2 33 j
          have A34 : ∀ j, 0 ≤ τ7.2.1 34 j ∧ τ7.2.1 34 j ≤ 20000 := fun j => hT.2 34 j
          have A35 : ∀ j, 0 ≤ τ7.2.1 35 j ∧ τ7.2.1 35 j ≤ 1499 := fun j => hT.2 35 j
          have A36 : ∀ j, 0 ≤ τ7.2.1 36 j ∧ τ7.2.1 36 j ≤ 20000 := fun j => hT.2 36 j
          have A37 : ∀ j, 0 ≤ τ7.2.1 37 j ∧ τ7.2.1 37 j ≤ 19999 := fun j => hT.2 37 j
          have A44 : ∀ j, 0 ≤ τ7.2.1 44 j ∧ τ7.2.1 44 j ≤ 42000 := fun j => hT.2 44 j
          have A45 : ∀ j, 0 ≤ τ7.2.1 45 j ∧ τ7.2.1 45 j ≤ 1000 := fun j => hT.2 45 j
          have A49 : ∀ j, (-300) ≤ τ7.2.1 49 j ∧ τ7.2.1 49 j ≤ 67035 := fun j => hT.2 49 j
          have A51 : ∀ j, 0 ≤ τ7.2.1 51 j ∧ τ7.2.1 51 j ≤ 1499 := fun j => hT.2 51 j
          have A54 : ∀ j, 0 ≤ τ7.2.1 54 j ∧ τ7.2.1 54 j ≤ 999 := fun j => hT.2 54 j
          have v3 : 0 ≤ τ7.1 3 ∧ τ7.1 3 ≤ 2500 := hT.1 3
          have v4 : 0 ≤ τ7.1 4 ∧ τ7.1 4 ≤ 100 := hT.1 4
          have v5 : 0 ≤ τ7.1 5 ∧ τ7.1 5 ≤ 1000 := hT.1 5
          have v6 : 0 ≤ τ7.1 6 ∧ τ7.1 6 ≤ 30000 := hT.1 6
          have v7 : 0 ≤ τ7.1 7 ∧ τ7.1 7 ≤ 1500 := hT.1 7
          have v8 : 0 ≤ τ7.1 8 ∧ τ7.1 8 ≤ 1000 := hT.1 8
          have v9 : 0 ≤ τ7.1 9 ∧ τ7.1 9 ≤ 1500 := hT.1 9
          have v10 : 0 ≤ τ7.1 10 ∧ τ7.1 10 ≤ 1000 := hT.1 10
          have v11 : 0 ≤ τ7.1 11 ∧ τ7.1 11 ≤ 50 := hT.1 11
          have v12 : (-2147483648) ≤ τ7.1 12 ∧ τ7.1 12 ≤ 2147483647 := hT.1 12
          have v13 : 0 ≤ τ7.1 13 ∧ τ7.1 13 ≤ 90000 := hT.1 13
          have v14 : 0 ≤ τ7.1 14 ∧ τ7.1 14 ≤ 20000 := hT.1 14
          have v15 : 0 ≤ τ7.1 15 ∧ τ7.1 15 ≤ 20000 := hT.1 15
          have v16 : 0 ≤ τ7.1 16 ∧ τ7.1 16 ≤ 20000 := hT.1 16
          have v21 : 0 ≤ τ7.1 21 ∧ τ7.1 21 ≤ 20000 := hT.1 21
          have v22 : 0 ≤ τ7.1 22 ∧ τ7.1 22 ≤ 300 := hT.1 22
          have v23 : 0 ≤ τ7.1 23 ∧ τ7.1 23 ≤ 300 := hT.1 23
          have v24 : 0 ≤ τ7.1 24 ∧ τ7.1 24 ≤ 1499 := hT.1 24
          have v25 : 0 ≤ τ7.1 25 ∧ τ7.1 25 ≤ 3 := hT.1 25
          have v26 : 0 ≤ τ7.1 26 ∧ τ7.1 26 ≤ 5000010 := hT.1 26
          have v27 : 0 ≤ τ7.1 27 ∧ τ7.1 27 ≤ 1 := hT.1 27
          have v35 : 0 ≤ τ7.1 35 ∧ τ7.1 35 ≤ 7 := hT.1 35
          have v36 : 0 ≤ τ7.1 36 ∧ τ7.1 36 ≤ 1001 := hT.1 36
          have v37 : 0 ≤ τ7.1 37 ∧ τ7.1 37 ≤ 4 := hT.1 37
          have a13_7 : 0 ≤ τ7.2.1 13 (τ7.1 7) ∧ τ7.2.1 13 (τ7.1 7) ≤ 4 := hT.2 13 _
          have a14_7 : 0 ≤ τ7.2.1 14 (τ7.1 7) ∧ τ7.2.1 14 (τ7.1 7) ≤ 30000 := hT.2 14 _
          have a36_15 : 0 ≤ τ7.2.1 36 (τ7.1 15) ∧ τ7.2.1 36 (τ7.1 15) ≤ 20000 := hT.2 36 _
          have av7 : σ.1 7 ≤ τ7.1 7 := ag.1 7 (by decide)
          have av13 : σ.1 13 ≤ τ7.1 13 := ag.1 13 (by decide)
          have av14 : σ.1 14 ≤ τ7.1 14 := ag.1 14 (by decide)
          refine ⟨fun c8 => ?_, fun c8 => ?_⟩
          ·
            refine ⟨(⟨by (first | assumption | omega | (simp only [st_s] <;> omega) | fail), by (first | assumption | omega | (simp only [st_s] <;> omega) | fail)⟩ : rg (σ.1 7)), ?_⟩
            exact l_60 _ _ hT ag (show τ7.1 3 = σ.1 3 from by omega) (show τ7.1 4 = σ.1 4 from by omega) (show τ7.1 5 = σ.1 5 from by omega) (show τ7.1 6 = σ.1 6 from by omega) (show τ7.1 8 = σ.1 8 from by omega) (show τ7.1 10 = σ.1 10 from by omega) (show τ7.1 11 = σ.1 11 from by omega) (show τ7.1 15 = σ.1 15 from by omega) (show τ7.1 16 = σ.1 16 from by omega) (show τ7.1 21 = σ.1 21 from by omega) (show τ7.1 22 = σ.1 22 from by omega) (show τ7.1 23 = σ.1 23 from by omega) (show τ7.1 24 = σ.1 24 from by omega) (show τ7.1 25 = σ.1 25 from by omega) (show τ7.1 26 = σ.1 26 from by omega) (show τ7.1 27 = σ.1 27 from by omega) (show τ7.1 36 = σ.1 36 from by omega) (show τ7.1 37 = σ.1 37 from by omega) G2 G3 G4 G5 G6 G8 G10 G11 G14 G15 G16 G18 G20 G23 G24 G25 G33 G34 G35 G36 G37 G44 G45 G49 G51 G54 (show (σ.1 7) = (σ.1 7) from by (first | assumption | omega | (simp only [st_s] <;> omega) | fail)) (show ¬ (σ.1 37) = 3 from by (first | assumption | omega | (simp only [st_s] <;> omega) | fail)) (show 1 ≤ (σ.1 36) ∧ ((σ.1 37) = 0 → 2 ≤ (σ.1 36)) from by (first | assumption | omega | (simp only [st_s] <;> omega) | fail)) (show (σ.1 37) = 2 → J_f (σ.1 7) (τ7.1 13) (τ7.1 14) (τ7.2.1 13) (τ7.2.1 14) (τ7.2.1 15) (τ7.2.1 16) (τ7.2.1 27) (τ7.2.1 28) (τ7.2.1 29) (τ7.2.1 30) (τ7.2.1 31) (τ7.2.1 32) from by (first | (intro z; exfalso; omega) | exact fun _ => q5_7 c8 | fail)) (show (τ7.1 13) ≤ 60 * (σ.1 7) + 60 ∧ (¬ (σ.1 37) = 2 → (τ7.1 13) = (σ.1 13)) from by (first | assumption | omega | (simp only [st_s] <;> omega) | fail)) (show ∀ s : Int, τ7.2.1 26 s ≤ (τ7.1 12) from MT) (show (τ7.1 12) ≤ (σ.1 12) + 1 ∧ (τ7.1 7) = (σ.1 7) ∧ (τ7.1 9) = (σ.1 9) from by (first | assumption | omega | (simp only [st_s] <;> omega) | fail)) (show τ7.2.1 13 = σ.2.1 13 from by (first | rfl | exact g13_τ7 | fail)) (show τ7.2.1 9 = σ.2.1 9 from by (first | rfl | exact g9_τ7 | fail)) (show τ7.2.1 19 = σ.2.1 19 from by (first | rfl | exact g19_τ7 | fail)) (show τ7.2.1 22 = σ.2.1 22 from by (first | rfl | exact g22_τ7 | fail)) (show j_eq (σ.2.1 36 (σ.1 15)) (σ.2.1 37) (τ7.2.1 37) from CH) (show 5 ≤ (σ.1 35) from by (first | assumption | omega | (simp only [st_s] <;> omega) | fail))
          ·
            exact ⟨hT, (show 0 ≤ 5 ∧ 5 ≤ 19 from by (first | assumption | omega | (simp only [st_s] <;> omega) | fail)), (show J_ht (τ7.1 3) (τ7.2.1 2) (τ7.2.1 3) (τ7.2.1 5) (τ7.2.1 6) from HT), (show J_mn (τ7.1 3) (τ7.1 5) ((τ7.1 7) + 1) (τ7.2.1 4) from MN), (show J_rks (τ7.1 5) (τ7.1 4) (τ7.2.1 10) (τ7.2.1 11) from RKS), (show J_vs (τ7.1 8) (τ7.1 5) (τ7.2.1 20) from VS), (show J_vs (τ7.1 6) (τ7.1 5) (τ7.2.1 15) from TX), (show J_va (τ7.1 8) 1000 (τ7.2.1 18) (τ7.2.1 20) from VA), (show J_mk (τ7.1 11) (τ7.1 8) (τ7.1 9) (τ7.1 10) (τ7.2.1 25) from MK), (show J_sc (τ7.1 7) (τ7.1 9) (τ7.2.1 13) (τ7.2.1 14) (τ7.2.1 15) (τ7.2.1 16) (τ7.2.1 22) (τ7.2.1 19) from SC), (show J_ff (τ7.1 5) (τ7.1 7) (τ7.2.1 9) (τ7.2.1 13) (τ7.2.1 14) (τ7.2.1 15) from FF), (show ∀ s : Int, τ7.2.1 26 s ≤ (τ7.1 12) from MT), (show J_all (τ7.1 7) (τ7.1 6) (τ7.1 13) (τ7.1 14) (τ7.1 15) (τ7.2.1 13) (τ7.2.1 14) (τ7.2.1 15) (τ7.2.1 16) (τ7.2.1 10) (τ7.2.1 27) (τ7.2.1 28) (τ7.2.1 29) (τ7.2.1 30) (τ7.2.1 31) (τ7.2.1 32) (τ7.2.1 33) (τ7.2.1 34) (τ7.2.1 35) (τ7.2.1 36) (τ7.2.1 37) from by (first | exact CJ | exact c_J_ag CJ_0 hT0 ag (by omega) (by first | exact j_rr0 _ _ | (rw [G10]; exact j_rr0 _ _)) TX_0 CH (by omega) | fail)), (show J_bp (τ7.2.1 44) (τ7.2.1 45) from BP), (show J_nl (τ7.1 3) (τ7.2.1 2) (τ7.2.1 3) (τ7.2.1 4) from NL), (show 5 = 0 → J_rs (τ7.1 35) (τ7.1 7) (τ7.1 6) (τ7.1 36) (τ7.1 37) (τ7.1 5) (τ7.1 8) (τ7.2.1 14) from by (first | (intro z; exfalso; omega) | (intro z; unfold J_rs; rw [G14]; first | rw [show τ16.1 7 = σ.1 7 + 1 from by omega] | rw [show τ12.1 7 = σ.1 7 + 1 from by omega]; omega) | fail)), (show 5 = 0 → 5 ≤ (τ7.1 35) → 1 ≤ (τ7.1 36) → 0 ≤ τ7.2.1 10 (τ7.2.1 15 (τ7.2.1 14 (τ7.1 7))) from by (first | (intro z; exfalso; omega) | (intro z y; exfalso; omega) | exact fun _ => uc | (intro z y y2; exact uc (by omega) (by omega)) | (intro z y y2; exfalso; omega) | (intro z y y2; rw [G10, G14, G15, W7]; exact uc (by omega) (by omega)) | fail)), (show 5 = 0 → (τ7.1 35) = 4 → j_in (τ7.1 36) 1000 (τ7.2.1 54) from by (first | (intro z; exfalso; omega) | (intro z y; exfalso; omega) | exact fun _ => dj | fail)), (show 5 = 0 → 5 ≤ (τ7.1 35) → J_ip (τ7.1 7) (τ7.1 6) (τ7.1 37) (τ7.2.1 14) (τ7.2.1 15) (τ7.2.1 16) (τ7.2.1 19) from by (first | (intro z; exfalso; omega) | (intro z y; exfalso; omega) | exact fun _ => ipx | (intro z y; exact ipx (by omega)) | (intro z y; rw [W7, W6, W37, G14, G15, G16, G19]; exact ipx (by omega)) | fail)), (show 5 = 0 → ((τ7.1 35) ≤ 5 → (τ7.1 13) ≤ 60 * (τ7.1 7)) ∧ (τ7.1 13) ≤ 60 * (τ7.1 7) + 60 from by (intro z; omega)), (show 5 = 0 → 6 ≤ (τ7.1 35) → (τ7.1 24) = (τ7.1 7) ∧ J_f (τ7.1 7) (τ7.1 13) (τ7.1 14) (τ7.2.1 13) (τ7.2.1 14) (τ7.2.1 15) (τ7.2.1 16) (τ7.2.1 27) (τ7.2.1 28) (τ7.2.1 29) (τ7.2.1 30) (τ7.2.1 31) (τ7.2.1 32) from by (first | (intro z; exfalso; omega) | (intro z y; exfalso; omega) | exact fun _ => frx | (intro z y; exact frx (by omega)) | (intro z y; have w := frx (by omega); rw [W7, W13, W14, W24, G13, G14, G15, G16, G27, G28, G29, G30, G31, G32]; exact w) | fail)), (show 5 = 0 → 6 ≤ (τ7.1 35) → J_sp (τ7.1 24) (τ7.1 21) (τ7.1 23) (τ7.1 22) (τ7.2.1 49) (τ7.2.1 51) ∧ ((τ7.1 16) + (τ7.1 21) ≤ 20000) ∧ (¬ (τ7.1 27) = 0 → 1 ≤ (τ7.1 21) ∧ 0 ≤ τ7.2.1 49 ((τ7.1 21) - 1) ∧ τ7.2.1 49 ((τ7.1 21) - 1) < 65536) ∧ ((τ7.1 26) ≤ 1000000) ∧ ((τ7.1 25) ≤ 2 → (τ7.1 27) = 0) from by (first | (intro z; exfalso; omega) | (intro z y; exfalso; omega) | exact fun _ => spx | (intro z y; exact spx (by omega)) | fail)), (show 5 = 0 → (τ7.1 15) ≤ (τ7.1 16) ∧ τ7.2.1 36 (τ7.1 15) ≤ (τ7.1 16) from by (intro z; first | exact sux | omega)), (show 5 = 0 → (τ7.1 9) ≤ (τ7.1 7) from by (intro z; omega)), (show j_rr ((σ.1 5)) (σ.2.1 10) (τ7.2.1 10) from by (first | exact j_rr0 _ _ | (rw [G10]; exact j_rr0 _ _) | fail)), (show j_eq (σ.2.1 36 (σ.1 15)) (σ.2.1 37) (τ7.2.1 37) from CH), (show (τ7.1 12) ≤ (σ.1 12) + 1 from by (first | assumption | omega | (simp only [st_s] <;> omega) | fail)), (show c_Y σ τ7 from by (first | exact c_Y0 _ | exact c_Y_g W4 G11 G20 G22 G25 | exact c_Y_g (by omega) G11 G20 (by rw [g22_τ7]) G25 | exact c_Y_g (by omega) G11 G20 (by rw [g22_τ12]; exact i60_11) G25 | exact ⟨⟨by rw [G20]; exact j_eq0 _ _, by rw [q14_2, g22_τ12, i60_11]; exact j_eqs (j_eq0 _ _) (by omega), by rw [G11]; exact j_eq0 _ _, by omega⟩, by rw [G25], by rw [G25], by rw [G25]⟩ | fail)), ag⟩
      ·
        exact ⟨hT, (show 0 ≤ 4 ∧ 4 ≤ 19 from by (first | assumption | omega | (simp only [st_s] <;> omega) | fail)), (show J_ht (σ.1 3) (σ.2.1 2) (σ.2.1 3) (σ.2.1 5) (σ.2.1 6) from HT), (show J_mn (σ.1 3) (σ.1 5) ((σ.1 7) + 1) (σ.2.1 4) from MN), (show J_rks (σ.1 5) (σ.1 4) (σ.2.1 10) (σ.2.1 11) from RKS), (show J_vs (σ.1 8) (σ.1 5) (σ.2.1 20) from VS), (show J_vs (σ.1 6) (σ.1 5) (σ.2.1 15) from TX), (show J_va (σ.1 8) 1000 (σ.2.1 18) (σ.2.1 20) from VA), (show J_mk (σ.1 11) (σ.1 8) (σ.1 9) (σ.1 10) (σ.2.1 25) from MK), (show J_sc (σ.1 7) (σ.1 9) (σ.2.1 13) (σ.2.1 14) (σ.2.1 15) (σ.2.1 16) (σ.2.1 22) (σ.2.1 19) from SC), (show J_ff (σ.1 5) (σ.1 7) (σ.2.1 9) (σ.2.1 13) (σ.2.1 14) (σ.2.1 15) from FF), (show ∀ s : Int, σ.2.1 26 s ≤ (σ.1 12) from MT), (show J_all (σ.1 7) (σ.1 6) (σ.1 13) (σ.1 14) (σ.1 15) (σ.2.1 13) (σ.2.1 14) (σ.2.1 15) (σ.2.1 16) (σ.2.1 10) (σ.2.1 27) (σ.2.1 28) (σ.2.1 29) (σ.2.1 30) (σ.2.1 31) (σ.2.1 32) (σ.2.1 33) (σ.2.1 34) (σ.2.1 35) (σ.2.1 36) (σ.2.1 37) from CJ), (show J_bp (σ.2.1 44) (σ.2.1 45) from BP), (show J_nl (σ.1 3) (σ.2.1 2) (σ.2.1 3) (σ.2.1 4) from NL), (show 4 = 0 → J_rs (σ.1 35) (σ.1 7) (σ.1 6) (σ.1 36) (σ.1 37) (σ.1 5) (σ.1 8) (σ.2.1 14) from by (first | (intro z; exfalso; omega) | (intro z; unfold J_rs; rw [G14]; first | rw [show τ16.1 7 = σ.1 7 + 1 from by omega] | rw [show τ12.1 7 = σ.1 7 + 1 from by omega]; omega) | fail)), (show 4 = 0 → 5 ≤ (σ.1 35) → 1 ≤ (σ.1 36) → 0 ≤ σ.2.1 10 (σ.2.1 15 (σ.2.1 14 (σ.1 7))) from by (first | (intro z; exfalso; omega) | (intro z y; exfalso; omega) | exact fun _ => uc | (intro z y y2; exact uc (by omega) (by omega)) | (intro z y y2; exfalso; omega) | (intro z y y2; rw [G10, G14, G15, W7]; exact uc (by omega) (by omega)) | fail)), (show 4 = 0 → (σ.1 35) = 4 → j_in (σ.1 36) 1000 (σ.2.1 54) from by (first | (intro z; exfalso; omega) | (intro z y; exfalso; omega) | exact fun _ => dj | fail)), (show 4 = 0 → 5 ≤ (σ.1 35) → J_ip (σ.1 7) (σ.1 6) (σ.1 37) (σ.2.1 14) (σ.2.1 15) (σ.2.1 16) (σ.2.1 19) from by (first | (intro z; exfalso; omega) | (intro z y; exfalso; omega) | exact fun _ => ipx | (intro z y; exact ipx (by omega)) | (intro z y; rw [W7, W6, W37, G14, G15, G16, G19]; exact ipx (by omega)) | fail)), (show 4 = 0 → ((σ.1 35) ≤ 5 → (σ.1 13) ≤ 60 * (σ.1 7)) ∧ (σ.1 13) ≤ 60 * (σ.1 7) + 60 from by (intro z; omega)), (show 4 = 0 → 6 ≤ (σ.1 35) → (σ.1 24) = (σ.1 7) ∧ J_f (σ.1 7) (σ.1 13) (σ.1 14) (σ.2.1 13) (σ.2.1 14) (σ.2.1 15) (σ.2.1 16) (σ.2.1 27) (σ.2.1 28) (σ.2.1 29) (σ.2.1 30) (σ.2.1 31) (σ.2.1 32) from by (first | (intro z; exfalso; omega) | (intro z y; exfalso; omega) | exact fun _ => frx | (intro z y; exact frx (by omega)) | (intro z y; have w := frx (by omega); rw [W7, W13, W14, W24, G13, G14, G15, G16, G27, G28, G29, G30, G31, G32]; exact w) | fail)), (show 4 = 0 → 6 ≤ (σ.1 35) → J_sp (σ.1 24) (σ.1 21) (σ.1 23) (σ.1 22) (σ.2.1 49) (σ.2.1 51) ∧ ((σ.1 16) + (σ.1 21) ≤ 20000) ∧ (¬ (σ.1 27) = 0 → 1 ≤ (σ.1 21) ∧ 0 ≤ σ.2.1 49 ((σ.1 21) - 1) ∧ σ.2.1 49 ((σ.1 21) - 1) < 65536) ∧ ((σ.1 26) ≤ 1000000) ∧ ((σ.1 25) ≤ 2 → (σ.1 27) = 0) from by (first | (intro z; exfalso; omega) | (intro z y; exfalso; omega) | exact fun _ => spx | (intro z y; exact spx (by omega)) | fail)), (show 4 = 0 → (σ.1 15) ≤ (σ.1 16) ∧ σ.2.1 36 (σ.1 15) ≤ (σ.1 16) from by (intro z; first | exact sux | omega)), (show 4 = 0 → (σ.1 9) ≤ (σ.1 7) from by (intro z; omega)), (show j_rr ((σ.1 5)) (σ.2.1 10) (σ.2.1 10) from by (first | exact j_rr0 _ _ | (rw [G10]; exact j_rr0 _ _) | fail)), (show j_eq (σ.2.1 36 (σ.1 15)) (σ.2.1 37) (σ.2.1 37) from CH), (show (σ.1 12) ≤ (σ.1 12) + 1 from by (first | assumption | omega | (simp only [st_s] <;> omega) | fail)), (show c_Y σ σ from by (first | exact c_Y0 _ | exact c_Y_g W4 G11 G20 G22 G25 | exact c_Y_g (by omega) G11 G20 (by rw [g22_τ7]) G25 | exact c_Y_g (by omega) G11 G20 (by rw [g22_τ12]; exact i60_11) G25 | exact ⟨⟨by rw [G20]; exact j_eq0 _ _, by rw [q14_2, g22_τ12, i60_11]; exact j_eqs (j_eq0 _ _) (by omega), by rw [G11]; exact j_eq0 _ _, by omega⟩, by rw [G25], by rw [G25], by rw [G25]⟩ | fail)), ag⟩
set_option maxHeartbeats 4000000 in
theorem K_X7_endRow {σ : S0} (hT : c_T σ) (p1 : J_ht (σ.1 3) (σ.2.1 2) (σ.2.1 3) (σ.2.1 5) (σ.2.1 6)) (p2 : J_mn (σ.1 3) (σ.1 5) ((σ.1 7) + 1) (σ.2.1 4)) (p3 : J_rks (σ.1 5) (σ.1 4) (σ.2.1 10) (σ.2.1 11)) (p4 : J_vs (σ.1 8) (σ.1 5) (σ.2.1 20)) (p5 : J_vs (σ.1 6) (σ.1 5) (σ.2.1 15)) (p6 : J_va (σ.1 8) 1000 (σ.2.1 18) (σ.2.1 20)) (p7 : J_mk (σ.1 11) (σ.1 8) (σ.1 9) (σ.1 10) (σ.2.1 25)) (p8 : J_sc (σ.1 7) (σ.1 9) (σ.2.1 13) (σ.2.1 14) (σ.2.1 15) (σ.2.1 16) (σ.2.1 22) (σ.2.1 19)) (p9 : J_ff (σ.1 5) (σ.1 7) (σ.2.1 9) (σ.2.1 13) (σ.2.1 14) (σ.2.1 15)) (p10 : ∀ s : Int, σ.2.1 26 s ≤ (σ.1 12)) (p11 : J_all (σ.1 7) (σ.1 6) (σ.1 13) (σ.1 14) (σ.1 15) (σ.2.1 13) (σ.2.1 14) (σ.2.1 15) (σ.2.1 16) (σ.2.1 10) (σ.2.1 27) (σ.2.1 28) (σ.2.1 29) (σ.2.1 30) (σ.2.1 31) (σ.2.1 32) (σ.2.1 33) (σ.2.1 34) (σ.2.1 35) (σ.2.1 36) (σ.2.1 37)) (p12 : J_bp (σ.2.1 44) (σ.2.1 45)) (p13 : J_nl (σ.1 3) (σ.2.1 2) (σ.2.1 3) (σ.2.1 4)) (p14 : J_rs (σ.1 35) (σ.1 7) (σ.1 6) (σ.1 36) (σ.1 37) (σ.1 5) (σ.1 8) (σ.2.1 14)) (p15 : 5 ≤ (σ.1 35) → 1 ≤ (σ.1 36) → 0 ≤ σ.2.1 10 (σ.2.1 15 (σ.2.1 14 (σ.1 7)))) (p16 : (σ.1 35) = 4 → j_in (σ.1 36) 1000 (σ.2.1 54)) (p17 : 5 ≤ (σ.1 35) → J_ip (σ.1 7) (σ.1 6) (σ.1 37) (σ.2.1 14) (σ.2.1 15) (σ.2.1 16) (σ.2.1 19)) (p18 : ((σ.1 35) ≤ 5 → (σ.1 13) ≤ 60 * (σ.1 7)) ∧ (σ.1 13) ≤ 60 * (σ.1 7) + 60) (p19 : 6 ≤ (σ.1 35) → (σ.1 24) = (σ.1 7) ∧ J_f (σ.1 7) (σ.1 13) (σ.1 14) (σ.2.1 13) (σ.2.1 14) (σ.2.1 15) (σ.2.1 16) (σ.2.1 27) (σ.2.1 28) (σ.2.1 29) (σ.2.1 30) (σ.2.1 31) (σ.2.1 32)) (p20 : 6 ≤ (σ.1 35) → J_sp (σ.1 24) (σ.1 21) (σ.1 23) (σ.1 22) (σ.2.1 49) (σ.2.1 51) ∧ ((σ.1 16) + (σ.1 21) ≤ 20000) ∧ (¬ (σ.1 27) = 0 → 1 ≤ (σ.1 21) ∧ 0 ≤ σ.2.1 49 ((σ.1 21) - 1) ∧ σ.2.1 49 ((σ.1 21) - 1) < 65536) ∧ ((σ.1 26) ≤ 1000000) ∧ ((σ.1 25) ≤ 2 → (σ.1 27) = 0)) (p21 : (σ.1 15) ≤ (σ.1 16) ∧ σ.2.1 36 (σ.1 15) ≤ (σ.1 16)) (p22 : (σ.1 9) ≤ (σ.1 7)) (p23 : (σ.1 12) < 2147483647) : W_X7_endRow σ (fun (x : Int) (τ : S0) => (c_T τ) ∧ (0 ≤ x ∧ x ≤ 19) ∧ (J_ht (τ.1 3) (τ.2.1 2) (τ.2.1 3) (τ.2.1 5) (τ.2.1 6)) ∧ (J_mn (τ.1 3) (τ.1 5) ((τ.1 7) + 1) (τ.2.1 4)) ∧ (J_rks (τ.1 5) (τ.1 4) (τ.2.1 10) (τ.2.1 11)) ∧ (J_vs (τ.1 8) (τ.1 5) (τ.2.1 20)) ∧ (J_vs (τ.1 6) (τ.1 5) (τ.2.1 15)) ∧ (J_va (τ.1 8) 1000 (τ.2.1 18) (τ.2.1 20)) ∧ (J_mk (τ.1 11) (τ.1 8) (τ.1 9) (τ.1 10) (τ.2.1 25)) ∧ (J_sc (τ.1 7) (τ.1 9) (τ.2.1 13) (τ.2.1 14) (τ.2.1 15) (τ.2.1 16) (τ.2.1 22) (τ.2.1 19)) ∧ (J_ff (τ.1 5) (τ.1 7) (τ.2.1 9) (τ.2.1 13) (τ.2.1 14) (τ.2.1 15)) ∧ (∀ s : Int, τ.2.1 26 s ≤ (τ.1 12)) ∧ (J_all (τ.1 7) (τ.1 6) (τ.1 13) (τ.1 14) (τ.1 15) (τ.2.1 13) (τ.2.1 14) (τ.2.1 15) (τ.2.1 16) (τ.2.1 10) (τ.2.1 27) (τ.2.1 28) (τ.2.1 29) (τ.2.1 30) (τ.2.1 31) (τ.2.1 32) (τ.2.1 33) (τ.2.1 34) (τ.2.1 35) (τ.2.1 36) (τ.2.1 37)) ∧ (J_bp (τ.2.1 44) (τ.2.1 45)) ∧ (J_nl (τ.1 3) (τ.2.1 2) (τ.2.1 3) (τ.2.1 4)) ∧ (x = 0 → J_rs (τ.1 35) (τ.1 7) (τ.1 6) (τ.1 36) (τ.1 37) (τ.1 5) (τ.1 8) (τ.2.1 14)) ∧ (x = 0 → 5 ≤ (τ.1 35) → 1 ≤ (τ.1 36) → 0 ≤ τ.2.1 10 (τ.2.1 15 (τ.2.1 14 (τ.1 7)))) ∧ (x = 0 → (τ.1 35) = 4 → j_in (τ.1 36) 1000 (τ.2.1 54)) ∧ (x = 0 → 5 ≤ (τ.1 35) → J_ip (τ.1 7) (τ.1 6) (τ.1 37) (τ.2.1 14) (τ.2.1 15) (τ.2.1 16) (τ.2.1 19)) ∧ (x = 0 → ((τ.1 35) ≤ 5 → (τ.1 13) ≤ 60 * (τ.1 7)) ∧ (τ.1 13) ≤ 60 * (τ.1 7) + 60) ∧ (x = 0 → 6 ≤ (τ.1 35) → (τ.1 24) = (τ.1 7) ∧ J_f (τ.1 7) (τ.1 13) (τ.1 14) (τ.2.1 13) (τ.2.1 14) (τ.2.1 15) (τ.2.1 16) (τ.2.1 27) (τ.2.1 28) (τ.2.1 29) (τ.2.1 30) (τ.2.1 31) (τ.2.1 32)) ∧ (x = 0 → 6 ≤ (τ.1 35) → J_sp (τ.1 24) (τ.1 21) (τ.1 23) (τ.1 22) (τ.2.1 49) (τ.2.1 51) ∧ ((τ.1 16) + (τ.1 21) ≤ 20000) ∧ (¬ (τ.1 27) = 0 → 1 ≤ (τ.1 21) ∧ 0 ≤ τ.2.1 49 ((τ.1 21) - 1) ∧ τ.2.1 49 ((τ.1 21) - 1) < 65536) ∧ ((τ.1 26) ≤ 1000000) ∧ ((τ.1 25) ≤ 2 → (τ.1 27) = 0)) ∧ (x = 0 → (τ.1 15) ≤ (τ.1 16) ∧ τ.2.1 36 (τ.1 15) ≤ (τ.1 16)) ∧ (x = 0 → (τ.1 9) ≤ (τ.1 7)) ∧ (j_rr ((σ.1 5)) (σ.2.1 10) (τ.2.1 10)) ∧ (j_eq (σ.2.1 36 (σ.1 15)) (σ.2.1 37) (τ.2.1 37)) ∧ ((τ.1 12) ≤ (σ.1 12) + 1) ∧ (c_Y σ τ) ∧ (c_ag σ τ)) := by
  have A2 : ∀ j, 0 ≤ σ.2.1 2 j ∧ σ.2.1 2 j ≤ 65535 := fun j => hT.2 2 j
  have A3 : ∀ j, 0 ≤ σ.2.1 3 j ∧ σ.2.1 3 j ≤ 30000 := fun j => hT.2 3 j
  have A4 : ∀ j, (-1000) ≤ σ.2.1 4 j ∧ σ.2.1 4 j ≤ 1499 := fun j => hT.2 4 j
  have A5 : ∀ j, 0 ≤ σ.2.1 5 j ∧ σ.2.1 5 j ≤ 2500 := fun j => hT.2 5 j
  have A6 : ∀ j, 0 ≤ σ.2.1 6 j ∧ σ.2.1 6 j ≤ 2500 := fun j => hT.2 6 j
  have A8 : ∀ j, 0 ≤ σ.2.1 8 j ∧ σ.2.1 8 j ≤ 1 := fun j => hT.2 8 j
  have A9 : ∀ j, (-1) ≤ σ.2.1 9 j ∧ σ.2.1 9 j ≤ 1499 := fun j => hT.2 9 j
  have A10 : ∀ j, (-1) ≤ σ.2.1 10 j ∧ σ.2.1 10 j ≤ 99 := fun j => hT.2 10 j
  have A11 : ∀ j, 0 ≤ σ.2.1 11 j ∧ σ.2.1 11 j ≤ 999 := fun j => hT.2 11 j
  have A13 : ∀ j, 0 ≤ σ.2.1 13 j ∧ σ.2.1 13 j ≤ 4 := fun j => hT.2 13 j
  have A14 : ∀ j, 0 ≤ σ.2.1 14 j ∧ σ.2.1 14 j ≤ 30000 := fun j => hT.2 14 j
  have A15 : ∀ j, 0 ≤ σ.2.1 15 j ∧ σ.2.1 15 j ≤ 999 := fun j => hT.2 15 j
  have A16 : ∀ j, (-1) ≤ σ.2.1 16 j ∧ σ.2.1 16 j ≤ 1499 := fun j => hT.2 16 j
  have A18 : ∀ j, 0 ≤ σ.2.1 18 j ∧ σ.2.1 18 j ≤ 1 := fun j => hT.2 18 j
  have A19 : ∀ j, (-1) ≤ σ.2.1 19 j ∧ σ.2.1 19 j ≤ 1499 := fun j => hT.2 19 j
  have A20 : ∀ j, 0 ≤ σ.2.1 20 j ∧ σ.2.1 20 j ≤ 999 := fun j => hT.2 20 j
  have A22 : ∀ j, 0 ≤ σ.2.1 22 j ∧ σ.2.1 22 j ≤ 1499 := fun j => hT.2 22 j
  have A23 : ∀ j, 0 ≤ σ.2.1 23 j ∧ σ.2.1 23 j ≤ 999 := fun j => hT.2 23 j
  have A24 : ∀ j, 0 ≤ σ.2.1 24 j ∧ σ.2.1 24 j ≤ 999 := fun j => hT.2 24 j
  have A26 : ∀ j, (-2147483648) ≤ σ.2.1 26 j ∧ σ.2.1 26 j ≤ 2147483647 := fun j => hT.2 26 j
  have A27 : ∀ j, 0 ≤ σ.2.1 27 j ∧ σ.2.1 27 j ≤ 90000 := fun j => hT.2 27 j
  have A28 : ∀ j, 0 ≤ σ.2.1 28 j ∧ σ.2.1 28 j ≤ 60 := fun j => hT.2 28 j
  have A29 : ∀ j, 0 ≤ σ.2.1 29 j ∧ σ.2.1 29 j ≤ 1499 := fun j => hT.2 29 j
  have A30 : ∀ j, 0 ≤ σ.2.1 30 j ∧ σ.2.1 30 j ≤ 20000 := fun j => hT.2 30 j
  have A31 : ∀ j, 0 ≤ σ.2.1 31 j ∧ σ.2.1 31 j ≤ 20000 := fun j => hT.2 31 j
  have A32 : ∀ j, 0 ≤ σ.2.1 32 j ∧ σ.2.1 32 j ≤ 999999 := fun j => hT.2 32 j
  have A33 : ∀ j, 0 ≤ σ.2.1 33 j ∧ σ.2.1 33 j ≤ 20000 := fun j => hT.2 33 j
  have A34 : ∀ j, 0 ≤ σ.2.1 34 j ∧ σ.2.1 34 j ≤ 20000 := fun j => hT.2 34 j
  have A35 : ∀ j, 0 ≤ σ.2.1 35 j ∧ σ.2.1 35 j ≤ 1499 := fun j => hT.2 35 j
  have A36 : ∀ j, 0 ≤ σ.2.1 36 j ∧ σ.2.1 36 j ≤ 20000 := fun j => hT.2 36 j
  have A37 : ∀ j, 0 ≤ σ.2.1 37 j ∧ σ.2.1 37 j ≤ 19999 := fun j => hT.2 37 j
  have A44 : ∀ j, 0 ≤ σ.2.1 44 j ∧ σ.2.1 44 j ≤ 42000 := fun j => hT.2 44 j
  have A45 : ∀ j, 0 ≤ σ.2.1 45 j ∧ σ.2.1 45 j ≤ 1000 := fun j => hT.2 45 j
  have A49 : ∀ j, (-300) ≤ σ.2.1 49 j ∧ σ.2.1 49 j ≤ 67035 := fun j => hT.2 49 j
  have A51 : ∀ j, 0 ≤ σ.2.1 51 j ∧ σ.2.1 51 j ≤ 1499 := fun j => hT.2 51 j
  have A54 : ∀ j, 0 ≤ σ.2.1 54 j ∧ σ.2.1 54 j ≤ 999 := fun j => hT.2 54 j
  have v3 : 0 ≤ σ.1 3 ∧ σ.1 3 ≤ 2500 := hT.1 3
  have v4 : 0 ≤ σ.1 4 ∧ σ.1 4 ≤ 100 := hT.1 4
  have v5 : 0 ≤ σ.1 5 ∧ σ.1 5 ≤ 1000 := hT.1 5
  have v6 : 0 ≤ σ.1 6 ∧ σ.1 6 ≤ 30000 := hT.1 6
  have v7 : 0 ≤ σ.1 7 ∧ σ.1 7 ≤ 1500 := hT.1 7
  have v8 : 0 ≤ σ.1 8 ∧ σ.1 8 ≤ 1000 := hT.1 8
  have v9 : 0 ≤ σ.1 9 ∧ σ.1 9 ≤ 1500 := hT.1 9
  have v10 : 0 ≤ σ.1 10 ∧ σ.1 10 ≤ 1000 := hT.1 10
  have v11 : 0 ≤ σ.1 11 ∧ σ.1 11 ≤ 50 := hT.1 11
  have v12 : (-2147483648) ≤ σ.1 12 ∧ σ.1 12 ≤ 2147483647 := hT.1 12
  have v13 : 0 ≤ σ.1 13 ∧ σ.1 13 ≤ 90000 := hT.1 13
  have v14 : 0 ≤ σ.1 14 ∧ σ.1 14 ≤ 20000 := hT.1 14
  have v15 : 0 ≤ σ.1 15 ∧ σ.1 15 ≤ 20000 := hT.1 15
  have v16 : 0 ≤ σ.1 16 ∧ σ.1 16 ≤ 20000 := hT.1 16
  have v21 : 0 ≤ σ.1 21 ∧ σ.1 21 ≤ 20000 := hT.1 21
  have v22 : 0 ≤ σ.1 22 ∧ σ.1 22 ≤ 300 := hT.1 22
  have v23 : 0 ≤ σ.1 23 ∧ σ.1 23 ≤ 300 := hT.1 23
  have v24 : 0 ≤ σ.1 24 ∧ σ.1 24 ≤ 1499 := hT.1 24
  have v25 : 0 ≤ σ.1 25 ∧ σ.1 25 ≤ 3 := hT.1 25
  have v26 : 0 ≤ σ.1 26 ∧ σ.1 26 ≤ 5000010 := hT.1 26
  have v27 : 0 ≤ σ.1 27 ∧ σ.1 27 ≤ 1 := hT.1 27
  have v35 : 0 ≤ σ.1 35 ∧ σ.1 35 ≤ 7 := hT.1 35
  have v36 : 0 ≤ σ.1 36 ∧ σ.1 36 ≤ 1001 := hT.1 36
  have v37 : 0 ≤ σ.1 37 ∧ σ.1 37 ≤ 4 := hT.1 37
  have a14_7 : 0 ≤ σ.2.1 14 (σ.1 7) ∧ σ.2.1 14 (σ.1 7) ≤ 30000 := hT.2 14 _
  have a36_15 : 0 ≤ σ.2.1 36 (σ.1 15) ∧ σ.2.1 36 (σ.1 15) ≤ 20000 := hT.2 36 _
  have W3 : σ.1 3 = σ.1 3 := rfl
  have W4 : σ.1 4 = σ.1 4 := rfl
  have W5 : σ.1 5 = σ.1 5 := rfl
  have W6 : σ.1 6 = σ.1 6 := rfl
  have W8 : σ.1 8 = σ.1 8 := rfl
  have W10 : σ.1 10 = σ.1 10 := rfl
  have W11 : σ.1 11 = σ.1 11 := rfl
  have W15 : σ.1 15 = σ.1 15 := rfl
  have W16 : σ.1 16 = σ.1 16 := rfl
  have W21 : σ.1 21 = σ.1 21 := rfl
  have W22 : σ.1 22 = σ.1 22 := rfl
  have W23 : σ.1 23 = σ.1 23 := rfl
  have W24 : σ.1 24 = σ.1 24 := rfl
  have W25 : σ.1 25 = σ.1 25 := rfl
  have W26 : σ.1 26 = σ.1 26 := rfl
  have W27 : σ.1 27 = σ.1 27 := rfl
  have W36 : σ.1 36 = σ.1 36 := rfl
  have W37 : σ.1 37 = σ.1 37 := rfl
  have G2 : σ.2.1 2 = σ.2.1 2 := rfl
  have G3 : σ.2.1 3 = σ.2.1 3 := rfl
  have G4 : σ.2.1 4 = σ.2.1 4 := rfl
  have G5 : σ.2.1 5 = σ.2.1 5 := rfl
  have G6 : σ.2.1 6 = σ.2.1 6 := rfl
  have G8 : σ.2.1 8 = σ.2.1 8 := rfl
  have G10 : σ.2.1 10 = σ.2.1 10 := rfl
  have G11 : σ.2.1 11 = σ.2.1 11 := rfl
  have G14 : σ.2.1 14 = σ.2.1 14 := rfl
  have G15 : σ.2.1 15 = σ.2.1 15 := rfl
  have G16 : σ.2.1 16 = σ.2.1 16 := rfl
  have G18 : σ.2.1 18 = σ.2.1 18 := rfl
  have G20 : σ.2.1 20 = σ.2.1 20 := rfl
  have G23 : σ.2.1 23 = σ.2.1 23 := rfl
  have G24 : σ.2.1 24 = σ.2.1 24 := rfl
  have G25 : σ.2.1 25 = σ.2.1 25 := rfl
  have G33 : σ.2.1 33 = σ.2.1 33 := rfl
  have G34 : σ.2.1 34 = σ.2.1 34 := rfl
  have G35 : σ.2.1 35 = σ.2.1 35 := rfl
  have G36 : σ.2.1 36 = σ.2.1 36 := rfl
  have G37 : σ.2.1 37 = σ.2.1 37 := rfl
  have G44 : σ.2.1 44 = σ.2.1 44 := rfl
  have G45 : σ.2.1 45 = σ.2.1 45 := rfl
  have G49 : σ.2.1 49 = σ.2.1 49 := rfl
  have G51 : σ.2.1 51 = σ.2.1 51 := rfl
  have G54 : σ.2.1 54 = σ.2.1 54 := rfl
  have ag : c_ag σ σ := ag_0 σ
  intro P40 h40
  have hT0 := hT
  have t015 : ∀ p : Int, 0 ≤ σ.2.1 15 p ∧ σ.2.1 15 p < 1000 := fun p => ⟨(A15 p).1, by have := (A15 p).2; omega⟩
  have CH := j_eq0 (σ.2.1 36 (σ.1 15)) (σ.2.1 37)
  have jt := c_Jt p11
  have JFx := c_JF jt p8 (fun m => (hT.2 22 m).1) (by omega)
  have FPx := c_FP jt p9 (by omega)
  have uc := p15
  have dj := p16
  have ipx := p17
  have hux := p18
  have frx := p19
  have spx := p20
  have sux := p21
  have hcx := p22
  have rsx := p14
  unfold J_rs at rsx
  have HT : J_ht (σ.1 3) (σ.2.1 2) (σ.2.1 3) (σ.2.1 5) (σ.2.1 6) := p1
  have NL : J_nl (σ.1 3) (σ.2.1 2) (σ.2.1 3) (σ.2.1 4) := p13
  have MN : J_mn (σ.1 3) (σ.1 5) ((σ.1 7) + 1) (σ.2.1 4) := p2
  have VA : J_va (σ.1 8) 1000 (σ.2.1 18) (σ.2.1 20) := p6
  have SC : J_sc (σ.1 7) (σ.1 9) (σ.2.1 13) (σ.2.1 14) (σ.2.1 15) (σ.2.1 16) (σ.2.1 22) (σ.2.1 19) := p8
  have MK : J_mk (σ.1 11) (σ.1 8) (σ.1 9) (σ.1 10) (σ.2.1 25) := p7
  have FF : J_ff (σ.1 5) (σ.1 7) (σ.2.1 9) (σ.2.1 13) (σ.2.1 14) (σ.2.1 15) := p9
  have MT : ∀ s : Int, σ.2.1 26 s ≤ (σ.1 12) := p10
  have VS : J_vs (σ.1 8) (σ.1 5) (σ.2.1 20) := p4
  have TX : J_vs (σ.1 6) (σ.1 5) (σ.2.1 15) := p5
  have RKS : J_rks (σ.1 5) (σ.1 4) (σ.2.1 10) (σ.2.1 11) := p3
  have CJ : J_all (σ.1 7) (σ.1 6) (σ.1 13) (σ.1 14) (σ.1 15) (σ.2.1 13) (σ.2.1 14) (σ.2.1 15) (σ.2.1 16) (σ.2.1 10) (σ.2.1 27) (σ.2.1 28) (σ.2.1 29) (σ.2.1 30) (σ.2.1 31) (σ.2.1 32) (σ.2.1 33) (σ.2.1 34) (σ.2.1 35) (σ.2.1 36) (σ.2.1 37) := p11
  have BP : J_bp (σ.2.1 44) (σ.2.1 45) := p12
  have RS : J_rs (σ.1 35) (σ.1 7) (σ.1 6) (σ.1 36) (σ.1 37) (σ.1 5) (σ.1 8) (σ.2.1 14) := p14
  have BP_0 := BP
  have CH_0 := CH
  have CJ_0 := CJ
  have FF_0 := FF
  have HT_0 := HT
  have MK_0 := MK
  have MN_0 := MN
  have MT_0 := MT
  have NL_0 := NL
  have RKS_0 := RKS
  have RS_0 := RS
  have SC_0 := SC
  have TX_0 := TX
  have VA_0 := VA
  have VS_0 := VS
  refine ⟨fun c1 => ?_, fun c1 => ?_, fun c1 => ?_, fun c1 => ?_, fun c1 => ?_, fun c1 => ?_⟩
  ·
    exact ⟨hT, (show 0 ≤ 4 ∧ 4 ≤ 19 from by (first | assumption | omega | (simp only [st_s] <;> omega) | fail)), (show J_ht (σ.1 3) (σ.2.1 2) (σ.2.1 3) (σ.2.1 5) (σ.2.1 6) from HT), (show J_mn (σ.1 3) (σ.1 5) ((σ.1 7) + 1) (σ.2.1 4) from MN), (show J_rks (σ.1 5) (σ.1 4) (σ.2.1 10) (σ.2.1 11) from RKS), (show J_vs (σ.1 8) (σ.1 5) (σ.2.1 20) from VS), (show J_vs (σ.1 6) (σ.1 5) (σ.2.1 15) from TX), (show J_va (σ.1 8) 1000 (σ.2.1 18) (σ.2.1 20) from VA), (show J_mk (σ.1 11) (σ.1 8) (σ.1 9) (σ.1 10) (σ.2.1 25) from MK), (show J_sc (σ.1 7) (σ.1 9) (σ.2.1 13) (σ.2.1 14) (σ.2.1 15) (σ.2.1 16) (σ.2.1 22) (σ.2.1 19) from SC), (show J_ff (σ.1 5) (σ.1 7) (σ.2.1 9) (σ.2.1 13) (σ.2.1 14) (σ.2.1 15) from FF), (show ∀ s : Int, σ.2.1 26 s ≤ (σ.1 12) from MT), (show J_all (σ.1 7) (σ.1 6) (σ.1 13) (σ.1 14) (σ.1 15) (σ.2.1 13) (σ.2.1 14) (σ.2.1 15) (σ.2.1 16) (σ.2.1 10) (σ.2.1 27) (σ.2.1 28) (σ.2.1 29) (σ.2.1 30) (σ.2.1 31) (σ.2.1 32) (σ.2.1 33) (σ.2.1 34) (σ.2.1 35) (σ.2.1 36) (σ.2.1 37) from CJ), (show J_bp (σ.2.1 44) (σ.2.1 45) from BP), (show J_nl (σ.1 3) (σ.2.1 2) (σ.2.1 3) (σ.2.1 4) from NL), (show 4 = 0 → J_rs (σ.1 35) (σ.1 7) (σ.1 6) (σ.1 36) (σ.1 37) (σ.1 5) (σ.1 8) (σ.2.1 14) from by (first | (intro z; exfalso; omega) | exact q5_15 | exact q8_15 | (first | (intro z; exfalso; omega) | (intro z; unfold J_rs; omega) | (intro z; unfold J_rs; rw [G14, W7]; omega)) | fail)), (show 4 = 0 → 5 ≤ (σ.1 35) → 1 ≤ (σ.1 36) → 0 ≤ σ.2.1 10 (σ.2.1 15 (σ.2.1 14 (σ.1 7))) from by (first | (intro z; exfalso; omega) | exact q5_16 | exact q8_16 | (first | (intro z; exfalso; omega) | (intro z y; exfalso; omega) | exact fun _ => uc | (intro z y y2; exact uc (by omega) (by omega)) | (intro z y y2; exfalso; omega) | (intro z y y2; rw [G10, G14, G15, W7]; exact uc (by omega) (by omega))) | fail)), (show 4 = 0 → (σ.1 35) = 4 → j_in (σ.1 36) 1000 (σ.2.1 54) from by (first | (intro z; exfalso; omega) | exact q5_17 | exact q8_17 | (first | (intro z; exfalso; omega) | (intro z y; exfalso; omega) | exact fun _ => dj) | fail)), (show 4 = 0 → 5 ≤ (σ.1 35) → J_ip (σ.1 7) (σ.1 6) (σ.1 37) (σ.2.1 14) (σ.2.1 15) (σ.2.1 16) (σ.2.1 19) from by (first | (intro z; exfalso; omega) | exact q5_18 | exact q8_18 | (first | (intro z; exfalso; omega) | (intro z y; exfalso; omega) | exact fun _ => ipx | (intro z y; exact ipx (by omega)) | (intro z y; rw [W7, W6, W37, G14, G15, G16, G19]; exact ipx (by omega))) | fail)), (show 4 = 0 → ((σ.1 35) ≤ 5 → (σ.1 13) ≤ 60 * (σ.1 7)) ∧ (σ.1 13) ≤ 60 * (σ.1 7) + 60 from by (first | (intro z; exfalso; omega) | exact q5_19 | exact q8_19 | (intro z; omega) | fail)), (show 4 = 0 → 6 ≤ (σ.1 35) → (σ.1 24) = (σ.1 7) ∧ J_f (σ.1 7) (σ.1 13) (σ.1 14) (σ.2.1 13) (σ.2.1 14) (σ.2.1 15) (σ.2.1 16) (σ.2.1 27) (σ.2.1 28) (σ.2.1 29) (σ.2.1 30) (σ.2.1 31) (σ.2.1 32) from by (first | (intro z; exfalso; omega) | exact q5_20 | exact q8_20 | (first | (intro z; exfalso; omega) | (intro z y; exfalso; omega) | exact fun _ => frx | (intro z y; exact frx (by omega)) | (intro z y; have w := frx (by omega); rw [W7, W13, W14, W24, G13, G14, G15, G16, G27, G28, G29, G30, G31, G32]; exact w)) | fail)), (show 4 = 0 → 6 ≤ (σ.1 35) → J_sp (σ.1 24) (σ.1 21) (σ.1 23) (σ.1 22) (σ.2.1 49) (σ.2.1 51) ∧ ((σ.1 16) + (σ.1 21) ≤ 20000) ∧ (¬ (σ.1 27) = 0 → 1 ≤ (σ.1 21) ∧ 0 ≤ σ.2.1 49 ((σ.1 21) - 1) ∧ σ.2.1 49 ((σ.1 21) - 1) < 65536) ∧ ((σ.1 26) ≤ 1000000) ∧ ((σ.1 25) ≤ 2 → (σ.1 27) = 0) from by (first | (intro z; exfalso; omega) | exact q5_21 | exact q8_21 | (first | (intro z; exfalso; omega) | (intro z y; exfalso; omega) | exact fun _ => spx | (intro z y; exact spx (by omega))) | fail)), (show 4 = 0 → (σ.1 15) ≤ (σ.1 16) ∧ σ.2.1 36 (σ.1 15) ≤ (σ.1 16) from by (first | (intro z; exfalso; omega) | exact q5_22 | exact q8_22 | (intro z; first | exact sux | omega) | fail)), (show 4 = 0 → (σ.1 9) ≤ (σ.1 7) from by (first | (intro z; exfalso; omega) | exact q5_23 | exact q8_23 | (intro z; omega) | fail)), (show j_rr ((σ.1 5)) (σ.2.1 10) (σ.2.1 10) from by (first | exact j_rr0 _ _ | exact q5_24 | exact q8_24 | (rw [G10]; exact j_rr0 _ _) | fail)), (show j_eq (σ.2.1 36 (σ.1 15)) (σ.2.1 37) (σ.2.1 37) from CH), (show (σ.1 12) ≤ (σ.1 12) + 1 from by (first | assumption | omega | (simp only [st_s] <;> omega) | fail)), (show c_Y σ σ from by (first | exact c_Y0 _ | exact c_Y_g W4 G11 G20 G22 G25 | exact q5_27 | exact q8_27 | exact c_Y_g (by omega) (by rw [g11_τ4]) (by rw [g20_τ4]) (by rw [g22_τ4]) (by rw [g25_τ4]) | exact c_Y_g (by omega) (by rw [g11_τ13]) (by rw [g20_τ13]) (by rw [g22_τ13]) (by rw [g25_τ13]) | exact c_Y_g (by omega) (by rw [g11_τ17]) (by rw [g20_τ17]) (by rw [g22_τ17]) (by rw [g25_τ17]) | fail)), ag⟩
  ·
    refine h40 _ ?_
    refine ⟨_, K2_X7_endDeclaration hT (show 0 ≤ 1 from by (first | assumption | omega | (simp only [st_s] <;> omega) | fail)) (show 1 ≤ 2 from by (first | assumption | omega | (simp only [st_s] <;> omega) | fail)), ?_⟩
    intro x12 τ13 r_x12 hn_τ13 hf_τ13 hq
    obtain ⟨hT, q11_1, q11_2⟩ := hq
    replace q11_1 : 0 ≤ x12 ∧ x12 ≤ 19 := q11_1
    replace q11_2 : (τ13.1 35) = 0 := q11_2
    replace ag : c_ag σ τ13 := ag_r ag hf_τ13 rfl rfl
    have w3_τ13 : τ13.1 3 = σ.1 3 := hf_τ13.1 3 (by decide)
    have w4_τ13 : τ13.1 4 = σ.1 4 := hf_τ13.1 4 (by decide)
    have w5_τ13 : τ13.1 5 = σ.1 5 := hf_τ13.1 5 (by decide)
    have w6_τ13 : τ13.1 6 = σ.1 6 := hf_τ13.1 6 (by decide)
    have w7_τ13 : τ13.1 7 = σ.1 7 := hf_τ13.1 7 (by decide)
    have w8_τ13 : τ13.1 8 = σ.1 8 := hf_τ13.1 8 (by decide)
    have w9_τ13 : τ13.1 9 = σ.1 9 := hf_τ13.1 9 (by decide)
    have w10_τ13 : τ13.1 10 = σ.1 10 := hf_τ13.1 10 (by decide)
    have w11_τ13 : τ13.1 11 = σ.1 11 := hf_τ13.1 11 (by decide)
    have w12_τ13 : τ13.1 12 = σ.1 12 := hf_τ13.1 12 (by decide)
    have w13_τ13 : τ13.1 13 = σ.1 13 := hf_τ13.1 13 (by decide)
    have w14_τ13 : τ13.1 14 = σ.1 14 := hf_τ13.1 14 (by decide)
    have w15_τ13 : τ13.1 15 = σ.1 15 := hf_τ13.1 15 (by decide)
    have w16_τ13 : τ13.1 16 = σ.1 16 := hf_τ13.1 16 (by decide)
    have w21_τ13 : τ13.1 21 = σ.1 21 := hf_τ13.1 21 (by decide)
    have w22_τ13 : τ13.1 22 = σ.1 22 := hf_τ13.1 22 (by decide)
    have w23_τ13 : τ13.1 23 = σ.1 23 := hf_τ13.1 23 (by decide)
    have w24_τ13 : τ13.1 24 = σ.1 24 := hf_τ13.1 24 (by decide)
    have w25_τ13 : τ13.1 25 = σ.1 25 := hf_τ13.1 25 (by decide)
    have w26_τ13 : τ13.1 26 = σ.1 26 := hf_τ13.1 26 (by decide)
    have w27_τ13 : τ13.1 27 = σ.1 27 := hf_τ13.1 27 (by decide)
    have w36_τ13 : τ13.1 36 = σ.1 36 := hf_τ13.1 36 (by decide)
    have w37_τ13 : τ13.1 37 = σ.1 37 := hf_τ13.1 37 (by decide)
    have g2_τ13 : τ13.2.1 2 = σ.2.1 2 := hf_τ13.2.1 2 (by decide)
    have g3_τ13 : τ13.2.1 3 = σ.2.1 3 := hf_τ13.2.1 3 (by decide)
    have g4_τ13 : τ13.2.1 4 = σ.2.1 4 := hf_τ13.2.1 4 (by decide)
    have g5_τ13 : τ13.2.1 5 = σ.2.1 5 := hf_τ13.2.1 5 (by decide)
    have g6_τ13 : τ13.2.1 6 = σ.2.1 6 := hf_τ13.2.1 6 (by decide)
    have g8_τ13 : τ13.2.1 8 = σ.2.1 8 := hf_τ13.2.1 8 (by decide)
    have g9_τ13 : τ13.2.1 9 = σ.2.1 9 := hf_τ13.2.1 9 (by decide)
    have g10_τ13 : τ13.2.1 10 = σ.2.1 10 := hf_τ13.2.1 10 (by decide)
    have g11_τ13 : τ13.2.1 11 = σ.2.1 11 := hf_τ13.2.1 11 (by decide)
    have g13_τ13 : τ13.2.1 13 = σ.2.1 13 := hf_τ13.2.1 13 (by decide)
    have g14_τ13 : τ13.2.1 14 = σ.2.1 14 := hf_τ13.2.1 14 (by decide)
    have g15_τ13 : τ13.2.1 15 = σ.2.1 15 := hf_τ13.2.1 15 (by decide)
    have g16_τ13 : τ13.2.1 16 = σ.2.1 16 := hf_τ13.2.1 16 (by decide)
    have g18_τ13 : τ13.2.1 18 = σ.2.1 18 := hf_τ13.2.1 18 (by decide)
    have g19_τ13 : τ13.2.1 19 = σ.2.1 19 := hf_τ13.2.1 19 (by decide)
    have g20_τ13 : τ13.2.1 20 = σ.2.1 20 := hf_τ13.2.1 20 (by decide)
    have g22_τ13 : τ13.2.1 22 = σ.2.1 22 := hf_τ13.2.1 22 (by decide)
    have g23_τ13 : τ13.2.1 23 = σ.2.1 23 := hf_τ13.2.1 23 (by decide)
    have g24_τ13 : τ13.2.1 24 = σ.2.1 24 := hf_τ13.2.1 24 (by decide)
    have g25_τ13 : τ13.2.1 25 = σ.2.1 25 := hf_τ13.2.1 25 (by decide)
    have g26_τ13 : τ13.2.1 26 = σ.2.1 26 := hf_τ13.2.1 26 (by decide)
    have g27_τ13 : τ13.2.1 27 = σ.2.1 27 := hf_τ13.2.1 27 (by decide)
    have g28_τ13 : τ13.2.1 28 = σ.2.1 28 := hf_τ13.2.1 28 (by decide)
    have g29_τ13 : τ13.2.1 29 = σ.2.1 29 := hf_τ13.2.1 29 (by decide)
    have g30_τ13 : τ13.2.1 30 = σ.2.1 30 := hf_τ13.2.1 30 (by decide)
    have g31_τ13 : τ13.2.1 31 = σ.2.1 31 := hf_τ13.2.1 31 (by decide)
    have g32_τ13 : τ13.2.1 32 = σ.2.1 32 := hf_τ13.2.1 32 (by decide)
    have g33_τ13 : τ13.2.1 33 = σ.2.1 33 := hf_τ13.2.1 33 (by decide)
    have g34_τ13 : τ13.2.1 34 = σ.2.1 34 := hf_τ13.2.1 34 (by decide)
    have g35_τ13 : τ13.2.1 35 = σ.2.1 35 := hf_τ13.2.1 35 (by decide)
    have g36_τ13 : τ13.2.1 36 = σ.2.1 36 := hf_τ13.2.1 36 (by decide)
    have g37_τ13 : τ13.2.1 37 = σ.2.1 37 := hf_τ13.2.1 37 (by decide)
    have g44_τ13 : τ13.2.1 44 = σ.2.1 44 := hf_τ13.2.1 44 (by decide)
    have g45_τ13 : τ13.2.1 45 = σ.2.1 45 := hf_τ13.2.1 45 (by decide)
    have g49_τ13 : τ13.2.1 49 = σ.2.1 49 := hf_τ13.2.1 49 (by decide)
    have g51_τ13 : τ13.2.1 51 = σ.2.1 51 := hf_τ13.2.1 51 (by decide)
    have g54_τ13 : τ13.2.1 54 = σ.2.1 54 := hf_τ13.2.1 54 (by decide)
    have W3 : τ13.1 3 = σ.1 3 := by omega
    have W4 : τ13.1 4 = σ.1 4 := by omega
    have W5 : τ13.1 5 = σ.1 5 := by omega
    have W6 : τ13.1 6 = σ.1 6 := by omega
    have W8 : τ13.1 8 = σ.1 8 := by omega
    have W10 : τ13.1 10 = σ.1 10 := by omega
    have W11 : τ13.1 11 = σ.1 11 := by omega
    have W15 : τ13.1 15 = σ.1 15 := by omega
    have W16 : τ13.1 16 = σ.1 16 := by omega
    have W21 : τ13.1 21 = σ.1 21 := by omega
    have W22 : τ13.1 22 = σ.1 22 := by omega
    have W23 : τ13.1 23 = σ.1 23 := by omega
    have W24 : τ13.1 24 = σ.1 24 := by omega
    have W25 : τ13.1 25 = σ.1 25 := by omega
    have W26 : τ13.1 26 = σ.1 26 := by omega
    have W27 : τ13.1 27 = σ.1 27 := by omega
    have W36 : τ13.1 36 = σ.1 36 := by omega
    have W37 : τ13.1 37 = σ.1 37 := by omega
    have G2 : τ13.2.1 2 = σ.2.1 2 := (g2_τ13).trans G2
    have G3 : τ13.2.1 3 = σ.2.1 3 := (g3_τ13).trans G3
    have G4 : τ13.2.1 4 = σ.2.1 4 := (g4_τ13).trans G4
    have G5 : τ13.2.1 5 = σ.2.1 5 := (g5_τ13).trans G5
    have G6 : τ13.2.1 6 = σ.2.1 6 := (g6_τ13).trans G6
    have G8 : τ13.2.1 8 = σ.2.1 8 := (g8_τ13).trans G8
    have G10 : τ13.2.1 10 = σ.2.1 10 := (g10_τ13).trans G10
    have G11 : τ13.2.1 11 = σ.2.1 11 := (g11_τ13).trans G11
    have G14 : τ13.2.1 14 = σ.2.1 14 := (g14_τ13).trans G14
    have G15 : τ13.2.1 15 = σ.2.1 15 := (g15_τ13).trans G15
    have G16 : τ13.2.1 16 = σ.2.1 16 := (g16_τ13).trans G16
    have G18 : τ13.2.1 18 = σ.2.1 18 := (g18_τ13).trans G18
    have G20 : τ13.2.1 20 = σ.2.1 20 := (g20_τ13).trans G20
    have G23 : τ13.2.1 23 = σ.2.1 23 := (g23_τ13).trans G23
    have G24 : τ13.2.1 24 = σ.2.1 24 := (g24_τ13).trans G24
    have G25 : τ13.2.1 25 = σ.2.1 25 := (g25_τ13).trans G25
    have G33 : τ13.2.1 33 = σ.2.1 33 := (g33_τ13).trans G33
    have G34 : τ13.2.1 34 = σ.2.1 34 := (g34_τ13).trans G34
    have G35 : τ13.2.1 35 = σ.2.1 35 := (g35_τ13).trans G35
    have G36 : τ13.2.1 36 = σ.2.1 36 := (g36_τ13).trans G36
    have G37 : τ13.2.1 37 = σ.2.1 37 := (g37_τ13).trans G37
    have G44 : τ13.2.1 44 = σ.2.1 44 := (g44_τ13).trans G44
    have G45 : τ13.2.1 45 = σ.2.1 45 := (g45_τ13).trans G45
    have G49 : τ13.2.1 49 = σ.2.1 49 := (g49_τ13).trans G49
    have G51 : τ13.2.1 51 = σ.2.1 51 := (g51_τ13).trans G51
    have G54 : τ13.2.1 54 = σ.2.1 54 := (g54_τ13).trans G54
    have y14_7_τ13 : τ13.2.1 14 (τ13.1 7) = (σ.2.1 14) (σ.1 7) := by rw [g14_τ13, w7_τ13]
    have y36_15_τ13 : τ13.2.1 36 (τ13.1 15) = (σ.2.1 36) (σ.1 15) := by rw [g36_τ13, w15_τ13]
    have HT : J_ht (τ13.1 3) (τ13.2.1 2) (τ13.2.1 3) (τ13.2.1 5) (τ13.2.1 6) := by rw [show (J_ht (τ13.1 3) (τ13.2.1 2) (τ13.2.1 3) (τ13.2.1 5) (τ13.2.1 6)) = (J_ht (σ.1 3) (σ.2.1 2) (σ.2.1 3) (σ.2.1 5) (σ.2.1 6)) from by rw [w3_τ13, g2_τ13, g3_τ13, g5_τ13, g6_τ13]]; exact HT
    have NL : J_nl (τ13.1 3) (τ13.2.1 2) (τ13.2.1 3) (τ13.2.1 4) := by rw [show (J_nl (τ13.1 3) (τ13.2.1 2) (τ13.2.1 3) (τ13.2.1 4)) = (J_nl (σ.1 3) (σ.2.1 2) (σ.2.1 3) (σ.2.1 4)) from by rw [w3_τ13, g2_τ13, g3_τ13, g4_τ13]]; exact NL
    have MN : J_mn (τ13.1 3) (τ13.1 5) ((τ13.1 7) + 1) (τ13.2.1 4) := by rw [show (J_mn (τ13.1 3) (τ13.1 5) ((τ13.1 7) + 1) (τ13.2.1 4)) = (J_mn (σ.1 3) (σ.1 5) ((σ.1 7) + 1) (σ.2.1 4)) from by rw [w3_τ13, w5_τ13, w7_τ13, g4_τ13]]; exact MN
    have VA : J_va (τ13.1 8) 1000 (τ13.2.1 18) (τ13.2.1 20) := by rw [show (J_va (τ13.1 8) 1000 (τ13.2.1 18) (τ13.2.1 20)) = (J_va (σ.1 8) 1000 (σ.2.1 18) (σ.2.1 20)) from by rw [w8_τ13, g18_τ13, g20_τ13]]; exact VA
    have SC : J_sc (τ13.1 7) (τ13.1 9) (τ13.2.1 13) (τ13.2.1 14) (τ13.2.1 15) (τ13.2.1 16) (τ13.2.1 22) (τ13.2.1 19) := by rw [show (J_sc (τ13.1 7) (τ13.1 9) (τ13.2.1 13) (τ13.2.1 14) (τ13.2.1 15) (τ13.2.1 16) (τ13.2.1 22) (τ13.2.1 19)) = (J_sc (σ.1 7) (σ.1 9) (σ.2.1 13) (σ.2.1 14) (σ.2.1 15) (σ.2.1 16) (σ.2.1 22) (σ.2.1 19)) from by rw [w7_τ13, w9_τ13, g13_τ13, g14_τ13, g15_τ13, g16_τ13, g19_τ13, g22_τ13]]; exact SC
    have MK : J_mk (τ13.1 11) (τ13.1 8) (τ13.1 9) (τ13.1 10) (τ13.2.1 25) := by rw [show (J_mk (τ13.1 11) (τ13.1 8) (τ13.1 9) (τ13.1 10) (τ13.2.1 25)) = (J_mk (σ.1 11) (σ.1 8) (σ.1 9) (σ.1 10) (σ.2.1 25)) from by rw [w8_τ13, w9_τ13, w10_τ13, w11_τ13, g25_τ13]]; exact MK
    have FF : J_ff (τ13.1 5) (τ13.1 7) (τ13.2.1 9) (τ13.2.1 13) (τ13.2.1 14) (τ13.2.1 15) := by rw [show (J_ff (τ13.1 5) (τ13.1 7) (τ13.2.1 9) (τ13.2.1 13) (τ13.2.1 14) (τ13.2.1 15)) = (J_ff (σ.1 5) (σ.1 7) (σ.2.1 9) (σ.2.1 13) (σ.2.1 14) (σ.2.1 15)) from by rw [w5_τ13, w7_τ13, g9_τ13, g13_τ13, g14_τ13, g15_τ13]]; exact FF
    have MT : ∀ s : Int, τ13.2.1 26 s ≤ (τ13.1 12) := by rw [show (∀ s : Int, τ13.2.1 26 s ≤ (τ13.1 12)) = (∀ s : Int, σ.2.1 26 s ≤ (σ.1 12)) from by rw [w12_τ13, g26_τ13]]; exact MT
    have VS : J_vs (τ13.1 8) (τ13.1 5) (τ13.2.1 20) := by rw [show (J_vs (τ13.1 8) (τ13.1 5) (τ13.2.1 20)) = (J_vs (σ.1 8) (σ.1 5) (σ.2.1 20)) from by rw [w5_τ13, w8_τ13, g20_τ13]]; exact VS
    have TX : J_vs (τ13.1 6) (τ13.1 5) (τ13.2.1 15) := by rw [show (J_vs (τ13.1 6) (τ13.1 5) (τ13.2.1 15)) = (J_vs (σ.1 6) (σ.1 5) (σ.2.1 15)) from by rw [w5_τ13, w6_τ13, g15_τ13]]; exact TX
    have RKS : J_rks (τ13.1 5) (τ13.1 4) (τ13.2.1 10) (τ13.2.1 11) := by rw [show (J_rks (τ13.1 5) (τ13.1 4) (τ13.2.1 10) (τ13.2.1 11)) = (J_rks (σ.1 5) (σ.1 4) (σ.2.1 10) (σ.2.1 11)) from by rw [w4_τ13, w5_τ13, g10_τ13, g11_τ13]]; exact RKS
    have CJ : J_all (τ13.1 7) (τ13.1 6) (τ13.1 13) (τ13.1 14) (τ13.1 15) (τ13.2.1 13) (τ13.2.1 14) (τ13.2.1 15) (τ13.2.1 16) (τ13.2.1 10) (τ13.2.1 27) (τ13.2.1 28) (τ13.2.1 29) (τ13.2.1 30) (τ13.2.1 31) (τ13.2.1 32) (τ13.2.1 33) (τ13.2.1 34) (τ13.2.1 35) (τ13.2.1 36) (τ13.2.1 37) := by rw [show (J_all (τ13.1 7) (τ13.1 6) (τ13.1 13) (τ13.1 14) (τ13.1 15) (τ13.2.1 13) (τ13.2.1 14) (τ13.2.1 15) (τ13.2.1 16) (τ13.2.1 10) (τ13.2.1 27) (τ13.2.1 28) (τ13.2.1 29) (τ13.2.1 30) (τ13.2.1 31) (τ13.2.1 32) (τ13.2.1 33) (τ13.2.1 34) (τ13.2.1 35) (τ13.2.1 36) (τ13.2.1 37)) = (J_all (σ.1 7) (σ.1 6) (σ.1 13) (σ.1 14) (σ.1 15) (σ.2.1 13) (σ.2.1 14) (σ.2.1 15) (σ.2.1 16) (σ.2.1 10) (σ.2.1 27) (σ.2.1 28) (σ.2.1 29) (σ.2.1 30) (σ.2.1 31) (σ.2.1 32) (σ.2.1 33) (σ.2.1 34) (σ.2.1 35) (σ.2.1 36) (σ.2.1 37)) from by rw [w6_τ13, w7_τ13, w13_τ13, w14_τ13, w15_τ13, g10_τ13, g13_τ13, g14_τ13, g15_τ13, g16_τ13, g27_τ13, g28_τ13, g29_τ13, g30_τ13, g31_τ13, g32_τ13, g33_τ13, g34_τ13, g35_τ13, g36_τ13, g37_τ13]]; exact CJ
    have BP : J_bp (τ13.2.1 44) (τ13.2.1 45) := by rw [show (J_bp (τ13.2.1 44) (τ13.2.1 45)) = (J_bp (σ.2.1 44) (σ.2.1 45)) from by rw [g44_τ13, g45_τ13]]; exact BP
    have CH : j_eq (σ.2.1 36 (σ.1 15)) (σ.2.1 37) (τ13.2.1 37) := by rw [show (j_eq (σ.2.1 36 (σ.1 15)) (σ.2.1 37) (τ13.2.1 37)) = (j_eq (σ.2.1 36 (σ.1 15)) (σ.2.1 37) (σ.2.1 37)) from by rw [g37_τ13]]; exact CH
    have A2 : ∀ j, 0 ≤ τ13.2.1 2 j ∧ τ13.2.1 2 j ≤ 65535 := fun j => hT.2 2 j
    have A3 : ∀ j, 0 ≤ τ13.2.1 3 j ∧ τ13.2.1 3 j ≤ 30000 := fun j => hT.2 3 j
    have A4 : ∀ j, (-1000) ≤ τ13.2.1 4 j ∧ τ13.2.1 4 j ≤ 1499 := fun j => hT.2 4 j
    have A5 : ∀ j, 0 ≤ τ13.2.1 5 j ∧ τ13.2.1 5 j ≤ 2500 := fun j => hT.2 5 j
    have A6 : ∀ j, 0 ≤ τ13.2.1 6 j ∧ τ13.2.1 6 j ≤ 2500 := fun j => hT.2 6 j
    have A8 : ∀ j, 0 ≤ τ13.2.1 8 j ∧ τ13.2.1 8 j ≤ 1 := fun j => hT.2 8 j
    have A9 : ∀ j, (-1) ≤ τ13.2.1 9 j ∧ τ13.2.1 9 j ≤ 1499 := fun j => hT.2 9 j
    have A10 : ∀ j, (-1) ≤ τ13.2.1 10 j ∧ τ13.2.1 10 j ≤ 99 := fun j => hT.2 10 j
    have A11 : ∀ j, 0 ≤ τ13.2.1 11 j ∧ τ13.2.1 11 j ≤ 999 := fun j => hT.2 11 j
    have A13 : ∀ j, 0 ≤ τ13.2.1 13 j ∧ τ13.2.1 13 j ≤ 4 := fun j => hT.2 13 j
    have A14 : ∀ j, 0 ≤ τ13.2.1 14 j ∧ τ13.2.1 14 j ≤ 30000 := fun j => hT.2 14 j
    have A15 : ∀ j, 0 ≤ τ13.2.1 15 j ∧ τ13.2.1 15 j ≤ 999 := fun j => hT.2 15 j
    have A16 : ∀ j, (-1) ≤ τ13.2.1 16 j ∧ τ13.2.1 16 j ≤ 1499 := fun j => hT.2 16 j
    have A18 : ∀ j, 0 ≤ τ13.2.1 18 j ∧ τ13.2.1 18 j ≤ 1 := fun j => hT.2 18 j
    have A19 : ∀ j, (-1) ≤ τ13.2.1 19 j ∧ τ13.2.1 19 j ≤ 1499 := fun j => hT.2 19 j
    have A20 : ∀ j, 0 ≤ τ13.2.1 20 j ∧ τ13.2.1 20 j ≤ 999 := fun j => hT.2 20 j
    have A22 : ∀ j, 0 ≤ τ13.2.1 22 j ∧ τ13.2.1 22 j ≤ 1499 := fun j => hT.2 22 j
    have A23 : ∀ j, 0 ≤ τ13.2.1 23 j ∧ τ13.2.1 23 j ≤ 999 := fun j => hT.2 23 j
    have A24 : ∀ j, 0 ≤ τ13.2.1 24 j ∧ τ13.2.1 24 j ≤ 999 := fun j => hT.2 24 j
    have A26 : ∀ j, (-2147483648) ≤ τ13.2.1 26 j ∧ τ13.2.1 26 j ≤ 2147483647 := fun j => hT.2 26 j
    have A27 : ∀ j, 0 ≤ τ13.2.1 27 j ∧ τ13.2.1 27 j ≤ 90000 := fun j => hT.2 27 j
    have A28 : ∀ j, 0 ≤ τ13.2.1 28 j ∧ τ13.2.1 28 j ≤ 60 := fun j => hT.2 28 j
    have A29 : ∀ j, 0 ≤ τ13.2.1 29 j ∧ τ13.2.1 29 j ≤ 1499 := fun j => hT.2 29 j
    have A30 : ∀ j, 0 ≤ τ13.2.1 30 j ∧ τ13.2.1 30 j ≤ 20000 := fun j => hT.2 30 j
    have A31 : ∀ j, 0 ≤ τ13.2.1 31 j ∧ τ13.2.1 31 j ≤ 20000 := fun j => hT.2 31 j
    have A32 : ∀ j, 0 ≤ τ13.2.1 32 j ∧ τ13.2.1 32 j ≤ 999999 := fun j => hT.2 32 j
    have A33 : ∀ j, 0 ≤ τ13.2.1 33 j ∧ τ13.2.1 33 j ≤ 20000 := fun j => hT.2 33 j
    have A34 : ∀ j, 0 ≤ τ13.2.1 34 j ∧ τ13.2.1 34 j ≤ 20000 := fun j => hT.2 34 j
    have A35 : ∀ j, 0 ≤ τ13.2.1 35 j ∧ τ13.2.1 35 j ≤ 1499 := fun j => hT.2 35 j
    have A36 : ∀ j, 0 ≤ τ13.2.1 36 j ∧ τ13.2.1 36 j ≤ 20000 := fun j => hT.2 36 j
    have A37 : ∀ j, 0 ≤ τ13.2.1 37 j ∧ τ13.2.1 37 j ≤ 19999 := fun j => hT.2 37 j
    have A44 : ∀ j, 0 ≤ τ13.2.1 44 j ∧ τ13.2.1 44 j ≤ 42000 := fun j => hT.2 44 j
    have A45 : ∀ j, 0 ≤ τ13.2.1 45 j ∧ τ13.2.1 45 j ≤ 1000 := fun j => hT.2 45 j
    have A49 : ∀ j, (-300) ≤ τ13.2.1 49 j ∧ τ13.2.1 49 j ≤ 67035 := fun j => hT.2 49 j
    have A51 : ∀ j, 0 ≤ τ13.2.1 51 j ∧ τ13.2.1 51 j ≤ 1499 := fun j => hT.2 51 j
    have A54 : ∀ j, 0 ≤ τ13.2.1 54 j ∧ τ13.2.1 54 j ≤ 999 := fun j => hT.2 54 j
    have v3 : 0 ≤ τ13.1 3 ∧ τ13.1 3 ≤ 2500 := hT.1 3
    have v4 : 0 ≤ τ13.1 4 ∧ τ13.1 4 ≤ 100 := hT.1 4
    have v5 : 0 ≤ τ13.1 5 ∧ τ13.1 5 ≤ 1000 := hT.1 5
    have v6 : 0 ≤ τ13.1 6 ∧ τ13.1 6 ≤ 30000 := hT.1 6
    have v7 : 0 ≤ τ13.1 7 ∧ τ13.1 7 ≤ 1500 := hT.1 7
    have v8 : 0 ≤ τ13.1 8 ∧ τ13.1 8 ≤ 1000 := hT.1 8
    have v9 : 0 ≤ τ13.1 9 ∧ τ13.1 9 ≤ 1500 := hT.1 9
    have v10 : 0 ≤ τ13.1 10 ∧ τ13.1 10 ≤ 1000 := hT.1 10
    have v11 : 0 ≤ τ13.1 11 ∧ τ13.1 11 ≤ 50 := hT.1 11
    have v12 : (-2147483648) ≤ τ13.1 12 ∧ τ13.1 12 ≤ 2147483647 := hT.1 12
    have v13 : 0 ≤ τ13.1 13 ∧ τ13.1 13 ≤ 90000 := hT.1 13
    have v14 : 0 ≤ τ13.1 14 ∧ τ13.1 14 ≤ 20000 := hT.1 14
    have v15 : 0 ≤ τ13.1 15 ∧ τ13.1 15 ≤ 20000 := hT.1 15
    have v16 : 0 ≤ τ13.1 16 ∧ τ13.1 16 ≤ 20000 := hT.1 16
    have v21 : 0 ≤ τ13.1 21 ∧ τ13.1 21 ≤ 20000 := hT.1 21
    have v22 : 0 ≤ τ13.1 22 ∧ τ13.1 22 ≤ 300 := hT.1 22
    have v23 : 0 ≤ τ13.1 23 ∧ τ13.1 23 ≤ 300 := hT.1 23
    have v24 : 0 ≤ τ13.1 24 ∧ τ13.1 24 ≤ 1499 := hT.1 24
    have v25 : 0 ≤ τ13.1 25 ∧ τ13.1 25 ≤ 3 := hT.1 25
    have v26 : 0 ≤ τ13.1 26 ∧ τ13.1 26 ≤ 5000010 := hT.1 26
    have v27 : 0 ≤ τ13.1 27 ∧ τ13.1 27 ≤ 1 := hT.1 27
    have v35 : 0 ≤ τ13.1 35 ∧ τ13.1 35 ≤ 7 := hT.1 35
    have v36 : 0 ≤ τ13.1 36 ∧ τ13.1 36 ≤ 1001 := hT.1 36
    have v37 : 0 ≤ τ13.1 37 ∧ τ13.1 37 ≤ 4 := hT.1 37
    have a14_7 : 0 ≤ τ13.2.1 14 (τ13.1 7) ∧ τ13.2.1 14 (τ13.1 7) ≤ 30000 := hT.2 14 _
    have a36_15 : 0 ≤ τ13.2.1 36 (τ13.1 15) ∧ τ13.2.1 36 (τ13.1 15) ≤ 20000 := hT.2 36 _
    have av7 : σ.1 7 ≤ τ13.1 7 := ag.1 7 (by decide)
    have av13 : σ.1 13 ≤ τ13.1 13 := ag.1 13 (by decide)
    have av14 : σ.1 14 ≤ τ13.1 14 := ag.1 14 (by decide)
    exact ⟨hT, (show 0 ≤ x12 ∧ x12 ≤ 19 from by (first | assumption | omega | (simp only [st_s] <;> omega) | fail)), (show J_ht (τ13.1 3) (τ13.2.1 2) (τ13.2.1 3) (τ13.2.1 5) (τ13.2.1 6) from HT), (show J_mn (τ13.1 3) (τ13.1 5) ((τ13.1 7) + 1) (τ13.2.1 4) from MN), (show J_rks (τ13.1 5) (τ13.1 4) (τ13.2.1 10) (τ13.2.1 11) from RKS), (show J_vs (τ13.1 8) (τ13.1 5) (τ13.2.1 20) from VS), (show J_vs (τ13.1 6) (τ13.1 5) (τ13.2.1 15) from TX), (show J_va (τ13.1 8) 1000 (τ13.2.1 18) (τ13.2.1 20) from VA), (show J_mk (τ13.1 11) (τ13.1 8) (τ13.1 9) (τ13.1 10) (τ13.2.1 25) from MK), (show J_sc (τ13.1 7) (τ13.1 9) (τ13.2.1 13) (τ13.2.1 14) (τ13.2.1 15) (τ13.2.1 16) (τ13.2.1 22) (τ13.2.1 19) from SC), (show J_ff (τ13.1 5) (τ13.1 7) (τ13.2.1 9) (τ13.2.1 13) (τ13.2.1 14) (τ13.2.1 15) from FF), (show ∀ s : Int, τ13.2.1 26 s ≤ (τ13.1 12) from MT), (show J_all (τ13.1 7) (τ13.1 6) (τ13.1 13) (τ13.1 14) (τ13.1 15) (τ13.2.1 13) (τ13.2.1 14) (τ13.2.1 15) (τ13.2.1 16) (τ13.2.1 10) (τ13.2.1 27) (τ13.2.1 28) (τ13.2.1 29) (τ13.2.1 30) (τ13.2.1 31) (τ13.2.1 32) (τ13.2.1 33) (τ13.2.1 34) (τ13.2.1 35) (τ13.2.1 36) (τ13.2.1 37) from CJ), (show J_bp (τ13.2.1 44) (τ13.2.1 45) from BP), (show J_nl (τ13.1 3) (τ13.2.1 2) (τ13.2.1 3) (τ13.2.1 4) from NL), (show x12 = 0 → J_rs (τ13.1 35) (τ13.1 7) (τ13.1 6) (τ13.1 36) (τ13.1 37) (τ13.1 5) (τ13.1 8) (τ13.2.1 14) from by (first | (intro z; exfalso; omega) | exact q5_15 | exact q8_15 | (first | (intro z; exfalso; omega) | (intro z; unfold J_rs; omega) | (intro z; unfold J_rs; rw [G14, W7]; omega)) | fail)), (show x12 = 0 → 5 ≤ (τ13.1 35) → 1 ≤ (τ13.1 36) → 0 ≤ τ13.2.1 10 (τ13.2.1 15 (τ13.2.1 14 (τ13.1 7))) from by (first | (intro z; exfalso; omega) | exact q5_16 | exact q8_16 | (first | (intro z; exfalso; omega) | (intro z y; exfalso; omega) | exact fun _ => uc | (intro z y y2; exact uc (by omega) (by omega)) | (intro z y y2; exfalso; omega) | (intro z y y2; rw [G10, G14, G15, W7]; exact uc (by omega) (by omega))) | fail)), (show x12 = 0 → (τ13.1 35) = 4 → j_in (τ13.1 36) 1000 (τ13.2.1 54) from by (first | (intro z; exfalso; omega) | exact q5_17 | exact q8_17 | (first | (intro z; exfalso; omega) | (intro z y; exfalso; omega) | exact fun _ => dj) | fail)), (show x12 = 0 → 5 ≤ (τ13.1 35) → J_ip (τ13.1 7) (τ13.1 6) (τ13.1 37) (τ13.2.1 14) (τ13.2.1 15) (τ13.2.1 16) (τ13.2.1 19) from by (first | (intro z; exfalso; omega) | exact q5_18 | exact q8_18 | (first | (intro z; exfalso; omega) | (intro z y; exfalso; omega) | exact fun _ => ipx | (intro z y; exact ipx (by omega)) | (intro z y; rw [W7, W6, W37, G14, G15, G16, G19]; exact ipx (by omega))) | fail)), (show x12 = 0 → ((τ13.1 35) ≤ 5 → (τ13.1 13) ≤ 60 * (τ13.1 7)) ∧ (τ13.1 13) ≤ 60 * (τ13.1 7) + 60 from by (first | (intro z; exfalso; omega) | exact q5_19 | exact q8_19 | (intro z; omega) | fail)), (show x12 = 0 → 6 ≤ (τ13.1 35) → (τ13.1 24) = (τ13.1 7) ∧ J_f (τ13.1 7) (τ13.1 13) (τ13.1 14) (τ13.2.1 13) (τ13.2.1 14) (τ13.2.1 15) (τ13.2.1 16) (τ13.2.1 27) (τ13.2.1 28) (τ13.2.1 29) (τ13.2.1 30) (τ13.2.1 31) (τ13.2.1 32) from by (first | (intro z; exfalso; omega) | exact q5_20 | exact q8_20 | (first | (intro z; exfalso; omega) | (intro z y; exfalso; omega) | exact fun _ => frx | (intro z y; exact frx (by omega)) | (intro z y; have w := frx (by omega); rw [W7, W13, W14, W24, G13, G14, G15, G16, G27, G28, G29, G30, G31, G32]; exact w)) | fail)), (show x12 = 0 → 6 ≤ (τ13.1 35) → J_sp (τ13.1 24) (τ13.1 21) (τ13.1 23) (τ13.1 22) (τ13.2.1 49) (τ13.2.1 51) ∧ ((τ13.1 16) + (τ13.1 21) ≤ 20000) ∧ (¬ (τ13.1 27) = 0 → 1 ≤ (τ13.1 21) ∧ 0 ≤ τ13.2.1 49 ((τ13.1 21) - 1) ∧ τ13.2.1 49 ((τ13.1 21) - 1) < 65536) ∧ ((τ13.1 26) ≤ 1000000) ∧ ((τ13.1 25) ≤ 2 → (τ13.1 27) = 0) from by (first | (intro z; exfalso; omega) | exact q5_21 | exact q8_21 | (first | (intro z; exfalso; omega) | (intro z y; exfalso; omega) | exact fun _ => spx | (intro z y; exact spx (by omega))) | fail)), (show x12 = 0 → (τ13.1 15) ≤ (τ13.1 16) ∧ τ13.2.1 36 (τ13.1 15) ≤ (τ13.1 16) from by (first | (intro z; exfalso; omega) | exact q5_22 | exact q8_22 | (intro z; first | exact sux | omega) | fail)), (show x12 = 0 → (τ13.1 9) ≤ (τ13.1 7) from by (first | (intro z; exfalso; omega) | exact q5_23 | exact q8_23 | (intro z; omega) | fail)), (show j_rr ((σ.1 5)) (σ.2.1 10) (τ13.2.1 10) from by (first | exact j_rr0 _ _ | exact q5_24 | exact q8_24 | (rw [G10]; exact j_rr0 _ _) | fail)), (show j_eq (σ.2.1 36 (σ.1 15)) (σ.2.1 37) (τ13.2.1 37) from CH), (show (τ13.1 12) ≤ (σ.1 12) + 1 from by (first | assumption | omega | (simp only [st_s] <;> omega) | fail)), (show c_Y σ τ13 from by (first | exact c_Y0 _ | exact c_Y_g W4 G11 G20 G22 G25 | exact q5_27 | exact q8_27 | exact c_Y_g (by omega) (by rw [g11_τ4]) (by rw [g20_τ4]) (by rw [g22_τ4]) (by rw [g25_τ4]) | exact c_Y_g (by omega) (by rw [g11_τ13]) (by rw [g20_τ13]) (by rw [g22_τ13]) (by rw [g25_τ13]) | exact c_Y_g (by omega) (by rw [g11_τ17]) (by rw [g20_τ17]) (by rw [g22_τ17]) (by rw [g25_τ17]) | fail)), ag⟩
  ·
    refine h40 _ ?_
    refine ⟨_, K2_X7_endDeclaration hT (show 0 ≤ 1 from by (first | assumption | omega | (simp only [st_s] <;> omega) | fail)) (show 1 ≤ 2 from by (first | assumption | omega | (simp only [st_s] <;> omega) | fail)), ?_⟩
    intro x12 τ13 r_x12 hn_τ13 hf_τ13 hq
    obtain ⟨hT, q11_1, q11_2⟩ := hq
    replace q11_1 : 0 ≤ x12 ∧ x12 ≤ 19 := q11_1
    replace q11_2 : (τ13.1 35) = 0 := q11_2
    replace ag : c_ag σ τ13 := ag_r ag hf_τ13 rfl rfl
    have w3_τ13 : τ13.1 3 = σ.1 3 := hf_τ13.1 3 (by decide)
    have w4_τ13 : τ13.1 4 = σ.1 4 := hf_τ13.1 4 (by decide)
    have w5_τ13 : τ13.1 5 = σ.1 5 := hf_τ13.1 5 (by decide)
    have w6_τ13 : τ13.1 6 = σ.1 6 := hf_τ13.1 6 (by decide)
    have w7_τ13 : τ13.1 7 = σ.1 7 := hf_τ13.1 7 (by decide)
    have w8_τ13 : τ13.1 8 = σ.1 8 := hf_τ13.1 8 (by decide)
    have w9_τ13 : τ13.1 9 = σ.1 9 := hf_τ13.1 9 (by decide)
    have w10_τ13 : τ13.1 10 = σ.1 10 := hf_τ13.1 10 (by decide)
    have w11_τ13 : τ13.1 11 = σ.1 11 := hf_τ13.1 11 (by decide)
    have w12_τ13 : τ13.1 12 = σ.1 12 := hf_τ13.1 12 (by decide)
    have w13_τ13 : τ13.1 13 = σ.1 13 := hf_τ13.1 13 (by decide)
    have w14_τ13 : τ13.1 14 = σ.1 14 := hf_τ13.1 14 (by decide)
    have w15_τ13 : τ13.1 15 = σ.1 15 := hf_τ13.1 15 (by decide)
    have w16_τ13 : τ13.1 16 = σ.1 16 := hf_τ13.1 16 (by decide)
    have w21_τ13 : τ13.1 21 = σ.1 21 := hf_τ13.1 21 (by decide)
    have w22_τ13 : τ13.1 22 = σ.1 22 := hf_τ13.1 22 (by decide)
    have w23_τ13 : τ13.1 23 = σ.1 23 := hf_τ13.1 23 (by decide)
    have w24_τ13 : τ13.1 24 = σ.1 24 := hf_τ13.1 24 (by decide)
    have w25_τ13 : τ13.1 25 = σ.1 25 := hf_τ13.1 25 (by decide)
    have w26_τ13 : τ13.1 26 = σ.1 26 := hf_τ13.1 26 (by decide)
    have w27_τ13 : τ13.1 27 = σ.1 27 := hf_τ13.1 27 (by decide)
    have w36_τ13 : τ13.1 36 = σ.1 36 := hf_τ13.1 36 (by decide)
    have w37_τ13 : τ13.1 37 = σ.1 37 := hf_τ13.1 37 (by decide)
    have g2_τ13 : τ13.2.1 2 = σ.2.1 2 := hf_τ13.2.1 2 (by decide)
    have g3_τ13 : τ13.2.1 3 = σ.2.1 3 := hf_τ13.2.1 3 (by decide)
    have g4_τ13 : τ13.2.1 4 = σ.2.1 4 := hf_τ13.2.1 4 (by decide)
    have g5_τ13 : τ13.2.1 5 = σ.2.1 5 := hf_τ13.2.1 5 (by decide)
    have g6_τ13 : τ13.2.1 6 = σ.2.1 6 := hf_τ13.2.1 6 (by decide)
    have g8_τ13 : τ13.2.1 8 = σ.2.1 8 := hf_τ13.2.1 8 (by decide)
    have g9_τ13 : τ13.2.1 9 = σ.2.1 9 := hf_τ13.2.1 9 (by decide)
    have g10_τ13 : τ13.2.1 10 = σ.2.1 10 := hf_τ13.2.1 10 (by decide)
    have g11_τ13 : τ13.2.1 11 = σ.2.1 11 := hf_τ13.2.1 11 (by decide)
    have g13_τ13 : τ13.2.1 13 = σ.2.1 13 := hf_τ13.2.1 13 (by decide)
    have g14_τ13 : τ13.2.1 14 = σ.2.1 14 := hf_τ13.2.1 14 (by decide)
    have g15_τ13 : τ13.2.1 15 = σ.2.1 15 := hf_τ13.2.1 15 (by decide)
    have g16_τ13 : τ13.2.1 16 = σ.2.1 16 := hf_τ13.2.1 16 (by decide)
    have g18_τ13 : τ13.2.1 18 = σ.2.1 18 := hf_τ13.2.1 18 (by decide)
    have g19_τ13 : τ13.2.1 19 = σ.2.1 19 := hf_τ13.2.1 19 (by decide)
    have g20_τ13 : τ13.2.1 20 = σ.2.1 20 := hf_τ13.2.1 20 (by decide)
    have g22_τ13 : τ13.2.1 22 = σ.2.1 22 := hf_τ13.2.1 22 (by decide)
    have g23_τ13 : τ13.2.1 23 = σ.2.1 23 := hf_τ13.2.1 23 (by decide)
    have g24_τ13 : τ13.2.1 24 = σ.2.1 24 := hf_τ13.2.1 24 (by decide)
    have g25_τ13 : τ13.2.1 25 = σ.2.1 25 := hf_τ13.2.1 25 (by decide)
    have g26_τ13 : τ13.2.1 26 = σ.2.1 26 := hf_τ13.2.1 26 (by decide)
    have g27_τ13 : τ13.2.1 27 = σ.2.1 27 := hf_τ13.2.1 27 (by decide)
    have g28_τ13 : τ13.2.1 28 = σ.2.1 28 := hf_τ13.2.1 28 (by decide)
    have g29_τ13 : τ13.2.1 29 = σ.2.1 29 := hf_τ13.2.1 29 (by decide)
    have g30_τ13 : τ13.2.1 30 = σ.2.1 30 := hf_τ13.2.1 30 (by decide)
    have g31_τ13 : τ13.2.1 31 = σ.2.1 31 := hf_τ13.2.1 31 (by decide)
    have g32_τ13 : τ13.2.1 32 = σ.2.1 32 := hf_τ13.2.1 32 (by decide)
    have g33_τ13 : τ13.2.1 33 = σ.2.1 33 := hf_τ13.2.1 33 (by decide)
    have g34_τ13 : τ13.2.1 34 = σ.2.1 34 := hf_τ13.2.1 34 (by decide)
    have g35_τ13 : τ13.2.1 35 = σ.2.1 35 := hf_τ13.2.1 35 (by decide)
    have g36_τ13 : τ13.2.1 36 = σ.2.1 36 := hf_τ13.2.1 36 (by decide)
    have g37_τ13 : τ13.2.1 37 = σ.2.1 37 := hf_τ13.2.1 37 (by decide)
    have g44_τ13 : τ13.2.1 44 = σ.2.1 44 := hf_τ13.2.1 44 (by decide)
    have g45_τ13 : τ13.2.1 45 = σ.2.1 45 := hf_τ13.2.1 45 (by decide)
    have g49_τ13 : τ13.2.1 49 = σ.2.1 49 := hf_τ13.2.1 49 (by decide)
    have g51_τ13 : τ13.2.1 51 = σ.2.1 51 := hf_τ13.2.1 51 (by decide)
    have g54_τ13 : τ13.2.1 54 = σ.2.1 54 := hf_τ13.2.1 54 (by decide)
    have W3 : τ13.1 3 = σ.1 3 := by omega
    have W4 : τ13.1 4 = σ.1 4 := by omega
    have W5 : τ13.1 5 = σ.1 5 := by omega
    have W6 : τ13.1 6 = σ.1 6 := by omega
    have W8 : τ13.1 8 = σ.1 8 := by omega
    have W10 : τ13.1 10 = σ.1 10 := by omega
    have W11 : τ13.1 11 = σ.1 11 := by omega
    have W15 : τ13.1 15 = σ.1 15 := by omega
    have W16 : τ13.1 16 = σ.1 16 := by omega
    have W21 : τ13.1 21 = σ.1 21 := by omega
    have W22 : τ13.1 22 = σ.1 22 := by omega
    have W23 : τ13.1 23 = σ.1 23 := by omega
    have W24 : τ13.1 24 = σ.1 24 := by omega
    have W25 : τ13.1 25 = σ.1 25 := by omega
    have W26 : τ13.1 26 = σ.1 26 := by omega
    have W27 : τ13.1 27 = σ.1 27 := by omega
    have W36 : τ13.1 36 = σ.1 36 := by omega
    have W37 : τ13.1 37 = σ.1 37 := by omega
    have G2 : τ13.2.1 2 = σ.2.1 2 := (g2_τ13).trans G2
    have G3 : τ13.2.1 3 = σ.2.1 3 := (g3_τ13).trans G3
    have G4 : τ13.2.1 4 = σ.2.1 4 := (g4_τ13).trans G4
    have G5 : τ13.2.1 5 = σ.2.1 5 := (g5_τ13).trans G5
    have G6 : τ13.2.1 6 = σ.2.1 6 := (g6_τ13).trans G6
    have G8 : τ13.2.1 8 = σ.2.1 8 := (g8_τ13).trans G8
    have G10 : τ13.2.1 10 = σ.2.1 10 := (g10_τ13).trans G10
    have G11 : τ13.2.1 11 = σ.2.1 11 := (g11_τ13).trans G11
    have G14 : τ13.2.1 14 = σ.2.1 14 := (g14_τ13).trans G14
    have G15 : τ13.2.1 15 = σ.2.1 15 := (g15_τ13).trans G15
    have G16 : τ13.2.1 16 = σ.2.1 16 := (g16_τ13).trans G16
    have G18 : τ13.2.1 18 = σ.2.1 18 := (g18_τ13).trans G18
    have G20 : τ13.2.1 20 = σ.2.1 20 := (g20_τ13).trans G20
    have G23 : τ13.2.1 23 = σ.2.1 23 := (g23_τ13).trans G23
    have G24 : τ13.2.1 24 = σ.2.1 24 := (g24_τ13).trans G24
    have G25 : τ13.2.1 25 = σ.2.1 25 := (g25_τ13).trans G25
    have G33 : τ13.2.1 33 = σ.2.1 33 := (g33_τ13).trans G33
    have G34 : τ13.2.1 34 = σ.2.1 34 := (g34_τ13).trans G34
    have G35 : τ13.2.1 35 = σ.2.1 35 := (g35_τ13).trans G35
    have G36 : τ13.2.1 36 = σ.2.1 36 := (g36_τ13).trans G36
    have G37 : τ13.2.1 37 = σ.2.1 37 := (g37_τ13).trans G37
    have G44 : τ13.2.1 44 = σ.2.1 44 := (g44_τ13).trans G44
    have G45 : τ13.2.1 45 = σ.2.1 45 := (g45_τ13).trans G45
    have G49 : τ13.2.1 49 = σ.2.1 49 := (g49_τ13).trans G49
    have G51 : τ13.2.1 51 = σ.2.1 51 := (g51_τ13).trans G51
    have G54 : τ13.2.1 54 = σ.2.1 54 := (g54_τ13).trans G54
    have y14_7_τ13 : τ13.2.1 14 (τ13.1 7) = (σ.2.1 14) (σ.1 7) := by rw [g14_τ13, w7_τ13]
    have y36_15_τ13 : τ13.2.1 36 (τ13.1 15) = (σ.2.1 36) (σ.1 15) := by rw [g36_τ13, w15_τ13]
    have HT : J_ht (τ13.1 3) (τ13.2.1 2) (τ13.2.1 3) (τ13.2.1 5) (τ13.2.1 6) := by rw [show (J_ht (τ13.1 3) (τ13.2.1 2) (τ13.2.1 3) (τ13.2.1 5) (τ13.2.1 6)) = (J_ht (σ.1 3) (σ.2.1 2) (σ.2.1 3) (σ.2.1 5) (σ.2.1 6)) from by rw [w3_τ13, g2_τ13, g3_τ13, g5_τ13, g6_τ13]]; exact HT
    have NL : J_nl (τ13.1 3) (τ13.2.1 2) (τ13.2.1 3) (τ13.2.1 4) := by rw [show (J_nl (τ13.1 3) (τ13.2.1 2) (τ13.2.1 3) (τ13.2.1 4)) = (J_nl (σ.1 3) (σ.2.1 2) (σ.2.1 3) (σ.2.1 4)) from by rw [w3_τ13, g2_τ13, g3_τ13, g4_τ13]]; exact NL
    have MN : J_mn (τ13.1 3) (τ13.1 5) ((τ13.1 7) + 1) (τ13.2.1 4) := by rw [show (J_mn (τ13.1 3) (τ13.1 5) ((τ13.1 7) + 1) (τ13.2.1 4)) = (J_mn (σ.1 3) (σ.1 5) ((σ.1 7) + 1) (σ.2.1 4)) from by rw [w3_τ13, w5_τ13, w7_τ13, g4_τ13]]; exact MN
    have VA : J_va (τ13.1 8) 1000 (τ13.2.1 18) (τ13.2.1 20) := by rw [show (J_va (τ13.1 8) 1000 (τ13.2.1 18) (τ13.2.1 20)) = (J_va (σ.1 8) 1000 (σ.2.1 18) (σ.2.1 20)) from by rw [w8_τ13, g18_τ13, g20_τ13]]; exact VA
    have SC : J_sc (τ13.1 7) (τ13.1 9) (τ13.2.1 13) (τ13.2.1 14) (τ13.2.1 15) (τ13.2.1 16) (τ13.2.1 22) (τ13.2.1 19) := by rw [show (J_sc (τ13.1 7) (τ13.1 9) (τ13.2.1 13) (τ13.2.1 14) (τ13.2.1 15) (τ13.2.1 16) (τ13.2.1 22) (τ13.2.1 19)) = (J_sc (σ.1 7) (σ.1 9) (σ.2.1 13) (σ.2.1 14) (σ.2.1 15) (σ.2.1 16) (σ.2.1 22) (σ.2.1 19)) from by rw [w7_τ13, w9_τ13, g13_τ13, g14_τ13, g15_τ13, g16_τ13, g19_τ13, g22_τ13]]; exact SC
    have MK : J_mk (τ13.1 11) (τ13.1 8) (τ13.1 9) (τ13.1 10) (τ13.2.1 25) := by rw [show (J_mk (τ13.1 11) (τ13.1 8) (τ13.1 9) (τ13.1 10) (τ13.2.1 25)) = (J_mk (σ.1 11) (σ.1 8) (σ.1 9) (σ.1 10) (σ.2.1 25)) from by rw [w8_τ13, w9_τ13, w10_τ13, w11_τ13, g25_τ13]]; exact MK
    have FF : J_ff (τ13.1 5) (τ13.1 7) (τ13.2.1 9) (τ13.2.1 13) (τ13.2.1 14) (τ13.2.1 15) := by rw [show (J_ff (τ13.1 5) (τ13.1 7) (τ13.2.1 9) (τ13.2.1 13) (τ13.2.1 14) (τ13.2.1 15)) = (J_ff (σ.1 5) (σ.1 7) (σ.2.1 9) (σ.2.1 13) (σ.2.1 14) (σ.2.1 15)) from by rw [w5_τ13, w7_τ13, g9_τ13, g13_τ13, g14_τ13, g15_τ13]]; exact FF
    have MT : ∀ s : Int, τ13.2.1 26 s ≤ (τ13.1 12) := by rw [show (∀ s : Int, τ13.2.1 26 s ≤ (τ13.1 12)) = (∀ s : Int, σ.2.1 26 s ≤ (σ.1 12)) from by rw [w12_τ13, g26_τ13]]; exact MT
    have VS : J_vs (τ13.1 8) (τ13.1 5) (τ13.2.1 20) := by rw [show (J_vs (τ13.1 8) (τ13.1 5) (τ13.2.1 20)) = (J_vs (σ.1 8) (σ.1 5) (σ.2.1 20)) from by rw [w5_τ13, w8_τ13, g20_τ13]]; exact VS
    have TX : J_vs (τ13.1 6) (τ13.1 5) (τ13.2.1 15) := by rw [show (J_vs (τ13.1 6) (τ13.1 5) (τ13.2.1 15)) = (J_vs (σ.1 6) (σ.1 5) (σ.2.1 15)) from by rw [w5_τ13, w6_τ13, g15_τ13]]; exact TX
    have RKS : J_rks (τ13.1 5) (τ13.1 4) (τ13.2.1 10) (τ13.2.1 11) := by rw [show (J_rks (τ13.1 5) (τ13.1 4) (τ13.2.1 10) (τ13.2.1 11)) = (J_rks (σ.1 5) (σ.1 4) (σ.2.1 10) (σ.2.1 11)) from by rw [w4_τ13, w5_τ13, g10_τ13, g11_τ13]]; exact RKS
    have CJ : J_all (τ13.1 7) (τ13.1 6) (τ13.1 13) (τ13.1 14) (τ13.1 15) (τ13.2.1 13) (τ13.2.1 14) (τ13.2.1 15) (τ13.2.1 16) (τ13.2.1 10) (τ13.2.1 27) (τ13.2.1 28) (τ13.2.1 29) (τ13.2.1 30) (τ13.2.1 31) (τ13.2.1 32) (τ13.2.1 33) (τ13.2.1 34) (τ13.2.1 35) (τ13.2.1 36) (τ13.2.1 37) := by rw [show (J_all (τ13.1 7) (τ13.1 6) (τ13.1 13) (τ13.1 14) (τ13.1 15) (τ13.2.1 13) (τ13.2.1 14) (τ13.2.1 15) (τ13.2.1 16) (τ13.2.1 10) (τ13.2.1 27) (τ13.2.1 28) (τ13.2.1 29) (τ13.2.1 30) (τ13.2.1 31) (τ13.2.1 32) (τ13.2.1 33) (τ13.2.1 34) (τ13.2.1 35) (τ13.2.1 36) (τ13.2.1 37)) = (J_all (σ.1 7) (σ.1 6) (σ.1 13) (σ.1 14) (σ.1 15) (σ.2.1 13) (σ.2.1 14) (σ.2.1 15) (σ.2.1 16) (σ.2.1 10) (σ.2.1 27) (σ.2.1 28) (σ.2.1 29) (σ.2.1 30) (σ.2.1 31) (σ.2.1 32) (σ.2.1 33) (σ.2.1 34) (σ.2.1 35) (σ.2.1 36) (σ.2.1 37)) from by rw [w6_τ13, w7_τ13, w13_τ13, w14_τ13, w15_τ13, g10_τ13, g13_τ13, g14_τ13, g15_τ13, g16_τ13, g27_τ13, g28_τ13, g29_τ13, g30_τ13, g31_τ13, g32_τ13, g33_τ13, g34_τ13, g35_τ13, g36_τ13, g37_τ13]]; exact CJ
    have BP : J_bp (τ13.2.1 44) (τ13.2.1 45) := by rw [show (J_bp (τ13.2.1 44) (τ13.2.1 45)) = (J_bp (σ.2.1 44) (σ.2.1 45)) from by rw [g44_τ13, g45_τ13]]; exact BP
    have CH : j_eq (σ.2.1 36 (σ.1 15)) (σ.2.1 37) (τ13.2.1 37) := by rw [show (j_eq (σ.2.1 36 (σ.1 15)) (σ.2.1 37) (τ13.2.1 37)) = (j_eq (σ.2.1 36 (σ.1 15)) (σ.2.1 37) (σ.2.1 37)) from by rw [g37_τ13]]; exact CH
    have A2 : ∀ j, 0 ≤ τ13.2.1 2 j ∧ τ13.2.1 2 j ≤ 65535 := fun j => hT.2 2 j
    have A3 : ∀ j, 0 ≤ τ13.2.1 3 j ∧ τ13.2.1 3 j ≤ 30000 := fun j => hT.2 3 j
    have A4 : ∀ j, (-1000) ≤ τ13.2.1 4 j ∧ τ13.2.1 4 j ≤ 1499 := fun j => hT.2 4 j
    have A5 : ∀ j, 0 ≤ τ13.2.1 5 j ∧ τ13.2.1 5 j ≤ 2500 := fun j => hT.2 5 j
    have A6 : ∀ j, 0 ≤ τ13.2.1 6 j ∧ τ13.2.1 6 j ≤ 2500 := fun j => hT.2 6 j
    have A8 : ∀ j, 0 ≤ τ13.2.1 8 j ∧ τ13.2.1 8 j ≤ 1 := fun j => hT.2 8 j
    have A9 : ∀ j, (-1) ≤ τ13.2.1 9 j ∧ τ13.2.1 9 j ≤ 1499 := fun j => hT.2 9 j
    have A10 : ∀ j, (-1) ≤ τ13.2.1 10 j ∧ τ13.2.1 10 j ≤ 99 := fun j => hT.2 10 j
    have A11 : ∀ j, 0 ≤ τ13.2.1 11 j ∧ τ13.2.1 11 j ≤ 999 := fun j => hT.2 11 j
    have A13 : ∀ j, 0 ≤ τ13.2.1 13 j ∧ τ13.2.1 13 j ≤ 4 := fun j => hT.2 13 j
    have A14 : ∀ j, 0 ≤ τ13.2.1 14 j ∧ τ13.2.1 14 j ≤ 30000 := fun j => hT.2 14 j
    have A15 : ∀ j, 0 ≤ τ13.2.1 15 j ∧ τ13.2.1 15 j ≤ 999 := fun j => hT.2 15 j
    have A16 : ∀ j, (-1) ≤ τ13.2.1 16 j ∧ τ13.2.1 16 j ≤ 1499 := fun j => hT.2 16 j
    have A18 : ∀ j, 0 ≤ τ13.2.1 18 j ∧ τ13.2.1 18 j ≤ 1 := fun j => hT.2 18 j
    have A19 : ∀ j, (-1) ≤ τ13.2.1 19 j ∧ τ13.2.1 19 j ≤ 1499 := fun j => hT.2 19 j
    have A20 : ∀ j, 0 ≤ τ13.2.1 20 j ∧ τ13.2.1 20 j ≤ 999 := fun j => hT.2 20 j
    have A22 : ∀ j, 0 ≤ τ13.2.1 22 j ∧ τ13.2.1 22 j ≤ 1499 := fun j => hT.2 22 j
    have A23 : ∀ j, 0 ≤ τ13.2.1 23 j ∧ τ13.2.1 23 j ≤ 999 := fun j => hT.2 23 j
    have A24 : ∀ j, 0 ≤ τ13.2.1 24 j ∧ τ13.2.1 24 j ≤ 999 := fun j => hT.2 24 j
    have A26 : ∀ j, (-2147483648) ≤ τ13.2.1 26 j ∧ τ13.2.1 26 j ≤ 2147483647 := fun j => hT.2 26 j
    have A27 : ∀ j, 0 ≤ τ13.2.1 27 j ∧ τ13.2.1 27 j ≤ 90000 := fun j => hT.2 27 j
    have A28 : ∀ j, 0 ≤ τ13.2.1 28 j ∧ τ13.2.1 28 j ≤ 60 := fun j => hT.2 28 j
    have A29 : ∀ j, 0 ≤ τ13.2.1 29 j ∧ τ13.2.1 29 j ≤ 1499 := fun j => hT.2 29 j
    have A30 : ∀ j, 0 ≤ τ13.2.1 30 j ∧ τ13.2.1 30 j ≤ 20000 := fun j => hT.2 30 j
    have A31 : ∀ j, 0 ≤ τ13.2.1 31 j ∧ τ13.2.1 31 j ≤ 20000 := fun j => hT.2 31 j
    have A32 : ∀ j, 0 ≤ τ13.2.1 32 j ∧ τ13.2.1 32 j ≤ 999999 := fun j => hT.2 32 j
    have A33 : ∀ j, 0 ≤ τ13.2.1 33 j ∧ τ13.2.1 33 j ≤ 20000 := fun j => hT.2 33 j
    have A34 : ∀ j, 0 ≤ τ13.2.1 34 j ∧ τ13.2.1 34 j ≤ 20000 := fun j => hT.2 34 j
    have A35 : ∀ j, 0 ≤ τ13.2.1 35 j ∧ τ13.2.1 35 j ≤ 1499 := fun j => hT.2 35 j
    have A36 : ∀ j, 0 ≤ τ13.2.1 36 j ∧ τ13.2.1 36 j ≤ 20000 := fun j => hT.2 36 j
    have A37 : ∀ j, 0 ≤ τ13.2.1 37 j ∧ τ13.2.1 37 j ≤ 19999 := fun j => hT.2 37 j
    have A44 : ∀ j, 0 ≤ τ13.2.1 44 j ∧ τ13.2.1 44 j ≤ 42000 := fun j => hT.2 44 j
    have A45 : ∀ j, 0 ≤ τ13.2.1 45 j ∧ τ13.2.1 45 j ≤ 1000 := fun j => hT.2 45 j
    have A49 : ∀ j, (-300) ≤ τ13.2.1 49 j ∧ τ13.2.1 49 j ≤ 67035 := fun j => hT.2 49 j
    have A51 : ∀ j, 0 ≤ τ13.2.1 51 j ∧ τ13.2.1 51 j ≤ 1499 := fun j => hT.2 51 j
    have A54 : ∀ j, 0 ≤ τ13.2.1 54 j ∧ τ13.2.1 54 j ≤ 999 := fun j => hT.2 54 j
    have v3 : 0 ≤ τ13.1 3 ∧ τ13.1 3 ≤ 2500 := hT.1 3
    have v4 : 0 ≤ τ13.1 4 ∧ τ13.1 4 ≤ 100 := hT.1 4
    have v5 : 0 ≤ τ13.1 5 ∧ τ13.1 5 ≤ 1000 := hT.1 5
    have v6 : 0 ≤ τ13.1 6 ∧ τ13.1 6 ≤ 30000 := hT.1 6
    have v7 : 0 ≤ τ13.1 7 ∧ τ13.1 7 ≤ 1500 := hT.1 7
    have v8 : 0 ≤ τ13.1 8 ∧ τ13.1 8 ≤ 1000 := hT.1 8
    have v9 : 0 ≤ τ13.1 9 ∧ τ13.1 9 ≤ 1500 := hT.1 9
    have v10 : 0 ≤ τ13.1 10 ∧ τ13.1 10 ≤ 1000 := hT.1 10
    have v11 : 0 ≤ τ13.1 11 ∧ τ13.1 11 ≤ 50 := hT.1 11
    have v12 : (-2147483648) ≤ τ13.1 12 ∧ τ13.1 12 ≤ 2147483647 := hT.1 12
    have v13 : 0 ≤ τ13.1 13 ∧ τ13.1 13 ≤ 90000 := hT.1 13
    have v14 : 0 ≤ τ13.1 14 ∧ τ13.1 14 ≤ 20000 := hT.1 14
    have v15 : 0 ≤ τ13.1 15 ∧ τ13.1 15 ≤ 20000 := hT.1 15
    have v16 : 0 ≤ τ13.1 16 ∧ τ13.1 16 ≤ 20000 := hT.1 16
    have v21 : 0 ≤ τ13.1 21 ∧ τ13.1 21 ≤ 20000 := hT.1 21
    have v22 : 0 ≤ τ13.1 22 ∧ τ13.1 22 ≤ 300 := hT.1 22
    have v23 : 0 ≤ τ13.1 23 ∧ τ13.1 23 ≤ 300 := hT.1 23
    have v24 : 0 ≤ τ13.1 24 ∧ τ13.1 24 ≤ 1499 := hT.1 24
    have v25 : 0 ≤ τ13.1 25 ∧ τ13.1 25 ≤ 3 := hT.1 25
    have v26 : 0 ≤ τ13.1 26 ∧ τ13.1 26 ≤ 5000010 := hT.1 26
    have v27 : 0 ≤ τ13.1 27 ∧ τ13.1 27 ≤ 1 := hT.1 27
    have v35 : 0 ≤ τ13.1 35 ∧ τ13.1 35 ≤ 7 := hT.1 35
    have v36 : 0 ≤ τ13.1 36 ∧ τ13.1 36 ≤ 1001 := hT.1 36
    have v37 : 0 ≤ τ13.1 37 ∧ τ13.1 37 ≤ 4 := hT.1 37
    have a14_7 : 0 ≤ τ13.2.1 14 (τ13.1 7) ∧ τ13.2.1 14 (τ13.1 7) ≤ 30000 := hT.2 14 _
    have a36_15 : 0 ≤ τ13.2.1 36 (τ13.1 15) ∧ τ13.2.1 36 (τ13.1 15) ≤ 20000 := hT.2 36 _
    have av7 : σ.1 7 ≤ τ13.1 7 := ag.1 7 (by decide)
    have av13 : σ.1 13 ≤ τ13.1 13 := ag.1 13 (by decide)
    have av14 : σ.1 14 ≤ τ13.1 14 := ag.1 14 (by decide)
    exact ⟨hT, (show 0 ≤ x12 ∧ x12 ≤ 19 from by (first | assumption | omega | (simp only [st_s] <;> omega) | fail)), (show J_ht (τ13.1 3) (τ13.2.1 2) (τ13.2.1 3) (τ13.2.1 5) (τ13.2.1 6) from HT), (show J_mn (τ13.1 3) (τ13.1 5) ((τ13.1 7) + 1) (τ13.2.1 4) from MN), (show J_rks (τ13.1 5) (τ13.1 4) (τ13.2.1 10) (τ13.2.1 11) from RKS), (show J_vs (τ13.1 8) (τ13.1 5) (τ13.2.1 20) from VS), (show J_vs (τ13.1 6) (τ13.1 5) (τ13.2.1 15) from TX), (show J_va (τ13.1 8) 1000 (τ13.2.1 18) (τ13.2.1 20) from VA), (show J_mk (τ13.1 11) (τ13.1 8) (τ13.1 9) (τ13.1 10) (τ13.2.1 25) from MK), (show J_sc (τ13.1 7) (τ13.1 9) (τ13.2.1 13) (τ13.2.1 14) (τ13.2.1 15) (τ13.2.1 16) (τ13.2.1 22) (τ13.2.1 19) from SC), (show J_ff (τ13.1 5) (τ13.1 7) (τ13.2.1 9) (τ13.2.1 13) (τ13.2.1 14) (τ13.2.1 15) from FF), (show ∀ s : Int, τ13.2.1 26 s ≤ (τ13.1 12) from MT), (show J_all (τ13.1 7) (τ13.1 6) (τ13.1 13) (τ13.1 14) (τ13.1 15) (τ13.2.1 13) (τ13.2.1 14) (τ13.2.1 15) (τ13.2.1 16) (τ13.2.1 10) (τ13.2.1 27) (τ13.2.1 28) (τ13.2.1 29) (τ13.2.1 30) (τ13.2.1 31) (τ13.2.1 32) (τ13.2.1 33) (τ13.2.1 34) (τ13.2.1 35) (τ13.2.1 36) (τ13.2.1 37) from CJ), (show J_bp (τ13.2.1 44) (τ13.2.1 45) from BP), (show J_nl (τ13.1 3) (τ13.2.1 2) (τ13.2.1 3) (τ13.2.1 4) from NL), (show x12 = 0 → J_rs (τ13.1 35) (τ13.1 7) (τ13.1 6) (τ13.1 36) (τ13.1 37) (τ13.1 5) (τ13.1 8) (τ13.2.1 14) from by (first | (intro z; exfalso; omega) | exact q5_15 | exact q8_15 | (first | (intro z; exfalso; omega) | (intro z; unfold J_rs; omega) | (intro z; unfold J_rs; rw [G14, W7]; omega)) | fail)), (show x12 = 0 → 5 ≤ (τ13.1 35) → 1 ≤ (τ13.1 36) → 0 ≤ τ13.2.1 10 (τ13.2.1 15 (τ13.2.1 14 (τ13.1 7))) from by (first | (intro z; exfalso; omega) | exact q5_16 | exact q8_16 | (first | (intro z; exfalso; omega) | (intro z y; exfalso; omega) | exact fun _ => uc | (intro z y y2; exact uc (by omega) (by omega)) | (intro z y y2; exfalso; omega) | (intro z y y2; rw [G10, G14, G15, W7]; exact uc (by omega) (by omega))) | fail)), (show x12 = 0 → (τ13.1 35) = 4 → j_in (τ13.1 36) 1000 (τ13.2.1 54) from by (first | (intro z; exfalso; omega) | exact q5_17 | exact q8_17 | (first | (intro z; exfalso; omega) | (intro z y; exfalso; omega) | exact fun _ => dj) | fail)), (show x12 = 0 → 5 ≤ (τ13.1 35) → J_ip (τ13.1 7) (τ13.1 6) (τ13.1 37) (τ13.2.1 14) (τ13.2.1 15) (τ13.2.1 16) (τ13.2.1 19) from by (first | (intro z; exfalso; omega) | exact q5_18 | exact q8_18 | (first | (intro z; exfalso; omega) | (intro z y; exfalso; omega) | exact fun _ => ipx | (intro z y; exact ipx (by omega)) | (intro z y; rw [W7, W6, W37, G14, G15, G16, G19]; exact ipx (by omega))) | fail)), (show x12 = 0 → ((τ13.1 35) ≤ 5 → (τ13.1 13) ≤ 60 * (τ13.1 7)) ∧ (τ13.1 13) ≤ 60 * (τ13.1 7) + 60 from by (first | (intro z; exfalso; omega) | exact q5_19 | exact q8_19 | (intro z; omega) | fail)), (show x12 = 0 → 6 ≤ (τ13.1 35) → (τ13.1 24) = (τ13.1 7) ∧ J_f (τ13.1 7) (τ13.1 13) (τ13.1 14) (τ13.2.1 13) (τ13.2.1 14) (τ13.2.1 15) (τ13.2.1 16) (τ13.2.1 27) (τ13.2.1 28) (τ13.2.1 29) (τ13.2.1 30) (τ13.2.1 31) (τ13.2.1 32) from by (first | (intro z; exfalso; omega) | exact q5_20 | exact q8_20 | (first | (intro z; exfalso; omega) | (intro z y; exfalso; omega) | exact fun _ => frx | (intro z y; exact frx (by omega)) | (intro z y; have w := frx (by omega); rw [W7, W13, W14, W24, G13, G14, G15, G16, G27, G28, G29, G30, G31, G32]; exact w)) | fail)), (show x12 = 0 → 6 ≤ (τ13.1 35) → J_sp (τ13.1 24) (τ13.1 21) (τ13.1 23) (τ13.1 22) (τ13.2.1 49) (τ13.2.1 51) ∧ ((τ13.1 16) + (τ13.1 21) ≤ 20000) ∧ (¬ (τ13.1 27) = 0 → 1 ≤ (τ13.1 21) ∧ 0 ≤ τ13.2.1 49 ((τ13.1 21) - 1) ∧ τ13.2.1 49 ((τ13.1 21) - 1) < 65536) ∧ ((τ13.1 26) ≤ 1000000) ∧ ((τ13.1 25) ≤ 2 → (τ13.1 27) = 0) from by (first | (intro z; exfalso; omega) | exact q5_21 | exact q8_21 | (first | (intro z; exfalso; omega) | (intro z y; exfalso; omega) | exact fun _ => spx | (intro z y; exact spx (by omega))) | fail)), (show x12 = 0 → (τ13.1 15) ≤ (τ13.1 16) ∧ τ13.2.1 36 (τ13.1 15) ≤ (τ13.1 16) from by (first | (intro z; exfalso; omega) | exact q5_22 | exact q8_22 | (intro z; first | exact sux | omega) | fail)), (show x12 = 0 → (τ13.1 9) ≤ (τ13.1 7) from by (first | (intro z; exfalso; omega) | exact q5_23 | exact q8_23 | (intro z; omega) | fail)), (show j_rr ((σ.1 5)) (σ.2.1 10) (τ13.2.1 10) from by (first | exact j_rr0 _ _ | exact q5_24 | exact q8_24 | (rw [G10]; exact j_rr0 _ _) | fail)), (show j_eq (σ.2.1 36 (σ.1 15)) (σ.2.1 37) (τ13.2.1 37) from CH), (show (τ13.1 12) ≤ (σ.1 12) + 1 from by (first | assumption | omega | (simp only [st_s] <;> omega) | fail)), (show c_Y σ τ13 from by (first | exact c_Y0 _ | exact c_Y_g W4 G11 G20 G22 G25 | exact q5_27 | exact q8_27 | exact c_Y_g (by omega) (by rw [g11_τ4]) (by rw [g20_τ4]) (by rw [g22_τ4]) (by rw [g25_τ4]) | exact c_Y_g (by omega) (by rw [g11_τ13]) (by rw [g20_τ13]) (by rw [g22_τ13]) (by rw [g25_τ13]) | exact c_Y_g (by omega) (by rw [g11_τ17]) (by rw [g20_τ17]) (by rw [g22_τ17]) (by rw [g25_τ17]) | fail)), ag⟩
  ·
    refine ⟨_, K2_X7_endDeclaration hT (show 0 ≤ 2 from by (first | assumption | omega | (simp only [st_s] <;> omega) | fail)) (show 2 ≤ 2 from by (first | assumption | omega | (simp only [st_s] <;> omega) | fail)), ?_⟩
    intro x3 τ4 r_x3 hn_τ4 hf_τ4 hq
    obtain ⟨hT, q2_1, q2_2⟩ := hq
    replace q2_1 : 0 ≤ x3 ∧ x3 ≤ 19 := q2_1
    replace q2_2 : (τ4.1 35) = 0 := q2_2
    replace ag : c_ag σ τ4 := ag_r ag hf_τ4 rfl rfl
    have w3_τ4 : τ4.1 3 = σ.1 3 := hf_τ4.1 3 (by decide)
    have w4_τ4 : τ4.1 4 = σ.1 4 := hf_τ4.1 4 (by decide)
    have w5_τ4 : τ4.1 5 = σ.1 5 := hf_τ4.1 5 (by decide)
    have w6_τ4 : τ4.1 6 = σ.1 6 := hf_τ4.1 6 (by decide)
    have w7_τ4 : τ4.1 7 = σ.1 7 := hf_τ4.1 7 (by decide)
    have w8_τ4 : τ4.1 8 = σ.1 8 := hf_τ4.1 8 (by decide)
    have w9_τ4 : τ4.1 9 = σ.1 9 := hf_τ4.1 9 (by decide)
    have w10_τ4 : τ4.1 10 = σ.1 10 := hf_τ4.1 10 (by decide)
    have w11_τ4 : τ4.1 11 = σ.1 11 := hf_τ4.1 11 (by decide)
    have w12_τ4 : τ4.1 12 = σ.1 12 := hf_τ4.1 12 (by decide)
    have w13_τ4 : τ4.1 13 = σ.1 13 := hf_τ4.1 13 (by decide)
    have w14_τ4 : τ4.1 14 = σ.1 14 := hf_τ4.1 14 (by decide)
    have w15_τ4 : τ4.1 15 = σ.1 15 := hf_τ4.1 15 (by decide)
    have w16_τ4 : τ4.1 16 = σ.1 16 := hf_τ4.1 16 (by decide)
    have w21_τ4 : τ4.1 21 = σ.1 21 := hf_τ4.1 21 (by decide)
    have w22_τ4 : τ4.1 22 = σ.1 22 := hf_τ4.1 22 (by decide)
    have w23_τ4 : τ4.1 23 = σ.1 23 := hf_τ4.1 23 (by decide)
    have w24_τ4 : τ4.1 24 = σ.1 24 := hf_τ4.1 24 (by decide)
    have w25_τ4 : τ4.1 25 = σ.1 25 := hf_τ4.1 25 (by decide)
    have w26_τ4 : τ4.1 26 = σ.1 26 := hf_τ4.1 26 (by decide)
    have w27_τ4 : τ4.1 27 = σ.1 27 := hf_τ4.1 27 (by decide)
    have w36_τ4 : τ4.1 36 = σ.1 36 := hf_τ4.1 36 (by decide)
    have w37_τ4 : τ4.1 37 = σ.1 37 := hf_τ4.1 37 (by decide)
    have g2_τ4 : τ4.2.1 2 = σ.2.1 2 := hf_τ4.2.1 2 (by decide)
    have g3_τ4 : τ4.2.1 3 = σ.2.1 3 := hf_τ4.2.1 3 (by decide)
    have g4_τ4 : τ4.2.1 4 = σ.2.1 4 := hf_τ4.2.1 4 (by decide)
    have g5_τ4 : τ4.2.1 5 = σ.2.1 5 := hf_τ4.2.1 5 (by decide)
    have g6_τ4 : τ4.2.1 6 = σ.2.1 6 := hf_τ4.2.1 6 (by decide)
    have g8_τ4 : τ4.2.1 8 = σ.2.1 8 := hf_τ4.2.1 8 (by decide)
    have g9_τ4 : τ4.2.1 9 = σ.2.1 9 := hf_τ4.2.1 9 (by decide)
    have g10_τ4 : τ4.2.1 10 = σ.2.1 10 := hf_τ4.2.1 10 (by decide)
    have g11_τ4 : τ4.2.1 11 = σ.2.1 11 := hf_τ4.2.1 11 (by decide)
    have g13_τ4 : τ4.2.1 13 = σ.2.1 13 := hf_τ4.2.1 13 (by decide)
    have g14_τ4 : τ4.2.1 14 = σ.2.1 14 := hf_τ4.2.1 14 (by decide)
    have g15_τ4 : τ4.2.1 15 = σ.2.1 15 := hf_τ4.2.1 15 (by decide)
    have g16_τ4 : τ4.2.1 16 = σ.2.1 16 := hf_τ4.2.1 16 (by decide)
    have g18_τ4 : τ4.2.1 18 = σ.2.1 18 := hf_τ4.2.1 18 (by decide)
    have g19_τ4 : τ4.2.1 19 = σ.2.1 19 := hf_τ4.2.1 19 (by decide)
    have g20_τ4 : τ4.2.1 20 = σ.2.1 20 := hf_τ4.2.1 20 (by decide)
    have g22_τ4 : τ4.2.1 22 = σ.2.1 22 := hf_τ4.2.1 22 (by decide)
    have g23_τ4 : τ4.2.1 23 = σ.2.1 23 := hf_τ4.2.1 23 (by decide)
    have g24_τ4 : τ4.2.1 24 = σ.2.1 24 := hf_τ4.2.1 24 (by decide)
    have g25_τ4 : τ4.2.1 25 = σ.2.1 25 := hf_τ4.2.1 25 (by decide)
    have g26_τ4 : τ4.2.1 26 = σ.2.1 26 := hf_τ4.2.1 26 (by decide)
    have g27_τ4 : τ4.2.1 27 = σ.2.1 27 := hf_τ4.2.1 27 (by decide)
    have g28_τ4 : τ4.2.1 28 = σ.2.1 28 := hf_τ4.2.1 28 (by decide)
    have g29_τ4 : τ4.2.1 29 = σ.2.1 29 := hf_τ4.2.1 29 (by decide)
    have g30_τ4 : τ4.2.1 30 = σ.2.1 30 := hf_τ4.2.1 30 (by decide)
    have g31_τ4 : τ4.2.1 31 = σ.2.1 31 := hf_τ4.2.1 31 (by decide)
    have g32_τ4 : τ4.2.1 32 = σ.2.1 32 := hf_τ4.2.1 32 (by decide)
    have g33_τ4 : τ4.2.1 33 = σ.2.1 33 := hf_τ4.2.1 33 (by decide)
    have g34_τ4 : τ4.2.1 34 = σ.2.1 34 := hf_τ4.2.1 34 (by decide)
    have g35_τ4 : τ4.2.1 35 = σ.2.1 35 := hf_τ4.2.1 35 (by decide)
    have g36_τ4 : τ4.2.1 36 = σ.2.1 36 := hf_τ4.2.1 36 (by decide)
    have g37_τ4 : τ4.2.1 37 = σ.2.1 37 := hf_τ4.2.1 37 (by decide)
    have g44_τ4 : τ4.2.1 44 = σ.2.1 44 := hf_τ4.2.1 44 (by decide)
    have g45_τ4 : τ4.2.1 45 = σ.2.1 45 := hf_τ4.2.1 45 (by decide)
    have g49_τ4 : τ4.2.1 49 = σ.2.1 49 := hf_τ4.2.1 49 (by decide)
    have g51_τ4 : τ4.2.1 51 = σ.2.1 51 := hf_τ4.2.1 51 (by decide)
    have g54_τ4 : τ4.2.1 54 = σ.2.1 54 := hf_τ4.2.1 54 (by decide)
    have W3 : τ4.1 3 = σ.1 3 := by omega
    have W4 : τ4.1 4 = σ.1 4 := by omega
    have W5 : τ4.1 5 = σ.1 5 := by omega
    have W6 : τ4.1 6 = σ.1 6 := by omega
    have W8 : τ4.1 8 = σ.1 8 := by omega
    have W10 : τ4.1 10 = σ.1 10 := by omega
    have W11 : τ4.1 11 = σ.1 11 := by omega
    have W15 : τ4.1 15 = σ.1 15 := by omega
    have W16 : τ4.1 16 = σ.1 16 := by omega
    have W21 : τ4.1 21 = σ.1 21 := by omega
    have W22 : τ4.1 22 = σ.1 22 := by omega
    have W23 : τ4.1 23 = σ.1 23 := by omega
    have W24 : τ4.1 24 = σ.1 24 := by omega
    have W25 : τ4.1 25 = σ.1 25 := by omega
    have W26 : τ4.1 26 = σ.1 26 := by omega
    have W27 : τ4.1 27 = σ.1 27 := by omega
    have W36 : τ4.1 36 = σ.1 36 := by omega
    have W37 : τ4.1 37 = σ.1 37 := by omega
    have G2 : τ4.2.1 2 = σ.2.1 2 := (g2_τ4).trans G2
    have G3 : τ4.2.1 3 = σ.2.1 3 := (g3_τ4).trans G3
    have G4 : τ4.2.1 4 = σ.2.1 4 := (g4_τ4).trans G4
    have G5 : τ4.2.1 5 = σ.2.1 5 := (g5_τ4).trans G5
    have G6 : τ4.2.1 6 = σ.2.1 6 := (g6_τ4).trans G6
    have G8 : τ4.2.1 8 = σ.2.1 8 := (g8_τ4).trans G8
    have G10 : τ4.2.1 10 = σ.2.1 10 := (g10_τ4).trans G10
    have G11 : τ4.2.1 11 = σ.2.1 11 := (g11_τ4).trans G11
    have G14 : τ4.2.1 14 = σ.2.1 14 := (g14_τ4).trans G14
    have G15 : τ4.2.1 15 = σ.2.1 15 := (g15_τ4).trans G15
    have G16 : τ4.2.1 16 = σ.2.1 16 := (g16_τ4).trans G16
    have G18 : τ4.2.1 18 = σ.2.1 18 := (g18_τ4).trans G18
    have G20 : τ4.2.1 20 = σ.2.1 20 := (g20_τ4).trans G20
    have G23 : τ4.2.1 23 = σ.2.1 23 := (g23_τ4).trans G23
    have G24 : τ4.2.1 24 = σ.2.1 24 := (g24_τ4).trans G24
    have G25 : τ4.2.1 25 = σ.2.1 25 := (g25_τ4).trans G25
    have G33 : τ4.2.1 33 = σ.2.1 33 := (g33_τ4).trans G33
    have G34 : τ4.2.1 34 = σ.2.1 34 := (g34_τ4).trans G34
    have G35 : τ4.2.1 35 = σ.2.1 35 := (g35_τ4).trans G35
    have G36 : τ4.2.1 36 = σ.2.1 36 := (g36_τ4).trans G36
    have G37 : τ4.2.1 37 = σ.2.1 37 := (g37_τ4).trans G37
    have G44 : τ4.2.1 44 = σ.2.1 44 := (g44_τ4).trans G44
    have G45 : τ4.2.1 45 = σ.2.1 45 := (g45_τ4).trans G45
    have G49 : τ4.2.1 49 = σ.2.1 49 := (g49_τ4).trans G49
    have G51 : τ4.2.1 51 = σ.2.1 51 := (g51_τ4).trans G51
    have G54 : τ4.2.1 54 = σ.2.1 54 := (g54_τ4).trans G54
    have y14_7_τ4 : τ4.2.1 14 (τ4.1 7) = (σ.2.1 14) (σ.1 7) := by rw [g14_τ4, w7_τ4]
    have y36_15_τ4 : τ4.2.1 36 (τ4.1 15) = (σ.2.1 36) (σ.1 15) := by rw [g36_τ4, w15_τ4]
    have HT : J_ht (τ4.1 3) (τ4.2.1 2) (τ4.2.1 3) (τ4.2.1 5) (τ4.2.1 6) := by rw [show (J_ht (τ4.1 3) (τ4.2.1 2) (τ4.2.1 3) (τ4.2.1 5) (τ4.2.1 6)) = (J_ht (σ.1 3) (σ.2.1 2) (σ.2.1 3) (σ.2.1 5) (σ.2.1 6)) from by rw [w3_τ4, g2_τ4, g3_τ4, g5_τ4, g6_τ4]]; exact HT
    have NL : J_nl (τ4.1 3) (τ4.2.1 2) (τ4.2.1 3) (τ4.2.1 4) := by rw [show (J_nl (τ4.1 3) (τ4.2.1 2) (τ4.2.1 3) (τ4.2.1 4)) = (J_nl (σ.1 3) (σ.2.1 2) (σ.2.1 3) (σ.2.1 4)) from by rw [w3_τ4, g2_τ4, g3_τ4, g4_τ4]]; exact NL
    have MN : J_mn (τ4.1 3) (τ4.1 5) ((τ4.1 7) + 1) (τ4.2.1 4) := by rw [show (J_mn (τ4.1 3) (τ4.1 5) ((τ4.1 7) + 1) (τ4.2.1 4)) = (J_mn (σ.1 3) (σ.1 5) ((σ.1 7) + 1) (σ.2.1 4)) from by rw [w3_τ4, w5_τ4, w7_τ4, g4_τ4]]; exact MN
    have VA : J_va (τ4.1 8) 1000 (τ4.2.1 18) (τ4.2.1 20) := by rw [show (J_va (τ4.1 8) 1000 (τ4.2.1 18) (τ4.2.1 20)) = (J_va (σ.1 8) 1000 (σ.2.1 18) (σ.2.1 20)) from by rw [w8_τ4, g18_τ4, g20_τ4]]; exact VA
    have SC : J_sc (τ4.1 7) (τ4.1 9) (τ4.2.1 13) (τ4.2.1 14) (τ4.2.1 15) (τ4.2.1 16) (τ4.2.1 22) (τ4.2.1 19) := by rw [show (J_sc (τ4.1 7) (τ4.1 9) (τ4.2.1 13) (τ4.2.1 14) (τ4.2.1 15) (τ4.2.1 16) (τ4.2.1 22) (τ4.2.1 19)) = (J_sc (σ.1 7) (σ.1 9) (σ.2.1 13) (σ.2.1 14) (σ.2.1 15) (σ.2.1 16) (σ.2.1 22) (σ.2.1 19)) from by rw [w7_τ4, w9_τ4, g13_τ4, g14_τ4, g15_τ4, g16_τ4, g19_τ4, g22_τ4]]; exact SC
    have MK : J_mk (τ4.1 11) (τ4.1 8) (τ4.1 9) (τ4.1 10) (τ4.2.1 25) := by rw [show (J_mk (τ4.1 11) (τ4.1 8) (τ4.1 9) (τ4.1 10) (τ4.2.1 25)) = (J_mk (σ.1 11) (σ.1 8) (σ.1 9) (σ.1 10) (σ.2.1 25)) from by rw [w8_τ4, w9_τ4, w10_τ4, w11_τ4, g25_τ4]]; exact MK
    have FF : J_ff (τ4.1 5) (τ4.1 7) (τ4.2.1 9) (τ4.2.1 13) (τ4.2.1 14) (τ4.2.1 15) := by rw [show (J_ff (τ4.1 5) (τ4.1 7) (τ4.2.1 9) (τ4.2.1 13) (τ4.2.1 14) (τ4.2.1 15)) = (J_ff (σ.1 5) (σ.1 7) (σ.2.1 9) (σ.2.1 13) (σ.2.1 14) (σ.2.1 15)) from by rw [w5_τ4, w7_τ4, g9_τ4, g13_τ4, g14_τ4, g15_τ4]]; exact FF
    have MT : ∀ s : Int, τ4.2.1 26 s ≤ (τ4.1 12) := by rw [show (∀ s : Int, τ4.2.1 26 s ≤ (τ4.1 12)) = (∀ s : Int, σ.2.1 26 s ≤ (σ.1 12)) from by rw [w12_τ4, g26_τ4]]; exact MT
    have VS : J_vs (τ4.1 8) (τ4.1 5) (τ4.2.1 20) := by rw [show (J_vs (τ4.1 8) (τ4.1 5) (τ4.2.1 20)) = (J_vs (σ.1 8) (σ.1 5) (σ.2.1 20)) from by rw [w5_τ4, w8_τ4, g20_τ4]]; exact VS
    have TX : J_vs (τ4.1 6) (τ4.1 5) (τ4.2.1 15) := by rw [show (J_vs (τ4.1 6) (τ4.1 5) (τ4.2.1 15)) = (J_vs (σ.1 6) (σ.1 5) (σ.2.1 15)) from by rw [w5_τ4, w6_τ4, g15_τ4]]; exact TX
    have RKS : J_rks (τ4.1 5) (τ4.1 4) (τ4.2.1 10) (τ4.2.1 11) := by rw [show (J_rks (τ4.1 5) (τ4.1 4) (τ4.2.1 10) (τ4.2.1 11)) = (J_rks (σ.1 5) (σ.1 4) (σ.2.1 10) (σ.2.1 11)) from by rw [w4_τ4, w5_τ4, g10_τ4, g11_τ4]]; exact RKS
    have CJ : J_all (τ4.1 7) (τ4.1 6) (τ4.1 13) (τ4.1 14) (τ4.1 15) (τ4.2.1 13) (τ4.2.1 14) (τ4.2.1 15) (τ4.2.1 16) (τ4.2.1 10) (τ4.2.1 27) (τ4.2.1 28) (τ4.2.1 29) (τ4.2.1 30) (τ4.2.1 31) (τ4.2.1 32) (τ4.2.1 33) (τ4.2.1 34) (τ4.2.1 35) (τ4.2.1 36) (τ4.2.1 37) := by rw [show (J_all (τ4.1 7) (τ4.1 6) (τ4.1 13) (τ4.1 14) (τ4.1 15) (τ4.2.1 13) (τ4.2.1 14) (τ4.2.1 15) (τ4.2.1 16) (τ4.2.1 10) (τ4.2.1 27) (τ4.2.1 28) (τ4.2.1 29) (τ4.2.1 30) (τ4.2.1 31) (τ4.2.1 32) (τ4.2.1 33) (τ4.2.1 34) (τ4.2.1 35) (τ4.2.1 36) (τ4.2.1 37)) = (J_all (σ.1 7) (σ.1 6) (σ.1 13) (σ.1 14) (σ.1 15) (σ.2.1 13) (σ.2.1 14) (σ.2.1 15) (σ.2.1 16) (σ.2.1 10) (σ.2.1 27) (σ.2.1 28) (σ.2.1 29) (σ.2.1 30) (σ.2.1 31) (σ.2.1 32) (σ.2.1 33) (σ.2.1 34) (σ.2.1 35) (σ.2.1 36) (σ.2.1 37)) from by rw [w6_τ4, w7_τ4, w13_τ4, w14_τ4, w15_τ4, g10_τ4, g13_τ4, g14_τ4, g15_τ4, g16_τ4, g27_τ4, g28_τ4, g29_τ4, g30_τ4, g31_τ4, g32_τ4, g33_τ4, g34_τ4, g35_τ4, g36_τ4, g37_τ4]]; exact CJ
    have BP : J_bp (τ4.2.1 44) (τ4.2.1 45) := by rw [show (J_bp (τ4.2.1 44) (τ4.2.1 45)) = (J_bp (σ.2.1 44) (σ.2.1 45)) from by rw [g44_τ4, g45_τ4]]; exact BP
    have CH : j_eq (σ.2.1 36 (σ.1 15)) (σ.2.1 37) (τ4.2.1 37) := by rw [show (j_eq (σ.2.1 36 (σ.1 15)) (σ.2.1 37) (τ4.2.1 37)) = (j_eq (σ.2.1 36 (σ.1 15)) (σ.2.1 37) (σ.2.1 37)) from by rw [g37_τ4]]; exact CH
    have A2 : ∀ j, 0 ≤ τ4.2.1 2 j ∧ τ4.2.1 2 j ≤ 65535 := fun j => hT.2 2 j
    have A3 : ∀ j, 0 ≤ τ4.2.1 3 j ∧ τ4.2.1 3 j ≤ 30000 := fun j => hT.2 3 j
    have A4 : ∀ j, (-1000) ≤ τ4.2.1 4 j ∧ τ4.2.1 4 j ≤ 1499 := fun j => hT.2 4 j
    have A5 : ∀ j, 0 ≤ τ4.2.1 5 j ∧ τ4.2.1 5 j ≤ 2500 := fun j => hT.2 5 j
    have A6 : ∀ j, 0 ≤ τ4.2.1 6 j ∧ τ4.2.1 6 j ≤ 2500 := fun j => hT.2 6 j
    have A8 : ∀ j, 0 ≤ τ4.2.1 8 j ∧ τ4.2.1 8 j ≤ 1 := fun j => hT.2 8 j
    have A9 : ∀ j, (-1) ≤ τ4.2.1 9 j ∧ τ4.2.1 9 j ≤ 1499 := fun j => hT.2 9 j
    have A10 : ∀ j, (-1) ≤ τ4.2.1 10 j ∧ τ4.2.1 10 j ≤ 99 := fun j => hT.2 10 j
    have A11 : ∀ j, 0 ≤ τ4.2.1 11 j ∧ τ4.2.1 11 j ≤ 999 := fun j => hT.2 11 j
    have A13 : ∀ j, 0 ≤ τ4.2.1 13 j ∧ τ4.2.1 13 j ≤ 4 := fun j => hT.2 13 j
    have A14 : ∀ j, 0 ≤ τ4.2.1 14 j ∧ τ4.2.1 14 j ≤ 30000 := fun j => hT.2 14 j
    have A15 : ∀ j, 0 ≤ τ4.2.1 15 j ∧ τ4.2.1 15 j ≤ 999 := fun j => hT.2 15 j
    have A16 : ∀ j, (-1) ≤ τ4.2.1 16 j ∧ τ4.2.1 16 j ≤ 1499 := fun j => hT.2 16 j
    have A18 : ∀ j, 0 ≤ τ4.2.1 18 j ∧ τ4.2.1 18 j ≤ 1 := fun j => hT.2 18 j
    have A19 : ∀ j, (-1) ≤ τ4.2.1 19 j ∧ τ4.2.1 19 j ≤ 1499 := fun j => hT.2 19 j
    have A20 : ∀ j, 0 ≤ τ4.2.1 20 j ∧ τ4.2.1 20 j ≤ 999 := fun j => hT.2 20 j
    have A22 : ∀ j, 0 ≤ τ4.2.1 22 j ∧ τ4.2.1 22 j ≤ 1499 := fun j => hT.2 22 j
    have A23 : ∀ j, 0 ≤ τ4.2.1 23 j ∧ τ4.2.1 23 j ≤ 999 := fun j => hT.2 23 j
    have A24 : ∀ j, 0 ≤ τ4.2.1 24 j ∧ τ4.2.1 24 j ≤ 999 := fun j => hT.2 24 j
    have A26 : ∀ j, (-2147483648) ≤ τ4.2.1 26 j ∧ τ4.2.1 26 j ≤ 2147483647 := fun j => hT.2 26 j
    have A27 : ∀ j, 0 ≤ τ4.2.1 27 j ∧ τ4.2.1 27 j ≤ 90000 := fun j => hT.2 27 j
    have A28 : ∀ j, 0 ≤ τ4.2.1 28 j ∧ τ4.2.1 28 j ≤ 60 := fun j => hT.2 28 j
    have A29 : ∀ j, 0 ≤ τ4.2.1 29 j ∧ τ4.2.1 29 j ≤ 1499 := fun j => hT.2 29 j
    have A30 : ∀ j, 0 ≤ τ4.2.1 30 j ∧ τ4.2.1 30 j ≤ 20000 := fun j => hT.2 30 j
    have A31 : ∀ j, 0 ≤ τ4.2.1 31 j ∧ τ4.2.1 31 j ≤ 20000 := fun j => hT.2 31 j
    have A32 : ∀ j, 0 ≤ τ4.2.1 32 j ∧ τ4.2.1 32 j ≤ 999999 := fun j => hT.2 32 j
    have A33 : ∀ j, 0 ≤ τ4.2.1 33 j ∧ τ4.2.1 33 j ≤ 20000 := fun j => hT.2 33 j
    have A34 : ∀ j, 0 ≤ τ4.2.1 34 j ∧ τ4.2.1 34 j ≤ 20000 := fun j => hT.2 34 j
    have A35 : ∀ j, 0 ≤ τ4.2.1 35 j ∧ τ4.2.1 35 j ≤ 1499 := fun j => hT.2 35 j
    have A36 : ∀ j, 0 ≤ τ4.2.1 36 j ∧ τ4.2.1 36 j ≤ 20000 := fun j => hT.2 36 j
    have A37 : ∀ j, 0 ≤ τ4.2.1 37 j ∧ τ4.2.1 37 j ≤ 19999 := fun j => hT.2 37 j
    have A44 : ∀ j, 0 ≤ τ4.2.1 44 j ∧ τ4.2.1 44 j ≤ 42000 := fun j => hT.2 44 j
    have A45 : ∀ j, 0 ≤ τ4.2.1 45 j ∧ τ4.2.1 45 j ≤ 1000 := fun j => hT.2 45 j
    have A49 : ∀ j, (-300) ≤ τ4.2.1 49 j ∧ τ4.2.1 49 j ≤ 67035 := fun j => hT.2 49 j
    have A51 : ∀ j, 0 ≤ τ4.2.1 51 j ∧ τ4.2.1 51 j ≤ 1499 := fun j => hT.2 51 j
    have A54 : ∀ j, 0 ≤ τ4.2.1 54 j ∧ τ4.2.1 54 j ≤ 999 := fun j => hT.2 54 j
    have v3 : 0 ≤ τ4.1 3 ∧ τ4.1 3 ≤ 2500 := hT.1 3
    have v4 : 0 ≤ τ4.1 4 ∧ τ4.1 4 ≤ 100 := hT.1 4
    have v5 : 0 ≤ τ4.1 5 ∧ τ4.1 5 ≤ 1000 := hT.1 5
    have v6 : 0 ≤ τ4.1 6 ∧ τ4.1 6 ≤ 30000 := hT.1 6
    have v7 : 0 ≤ τ4.1 7 ∧ τ4.1 7 ≤ 1500 := hT.1 7
    have v8 : 0 ≤ τ4.1 8 ∧ τ4.1 8 ≤ 1000 := hT.1 8
    have v9 : 0 ≤ τ4.1 9 ∧ τ4.1 9 ≤ 1500 := hT.1 9
    have v10 : 0 ≤ τ4.1 10 ∧ τ4.1 10 ≤ 1000 := hT.1 10
    have v11 : 0 ≤ τ4.1 11 ∧ τ4.1 11 ≤ 50 := hT.1 11
    have v12 : (-2147483648) ≤ τ4.1 12 ∧ τ4.1 12 ≤ 2147483647 := hT.1 12
    have v13 : 0 ≤ τ4.1 13 ∧ τ4.1 13 ≤ 90000 := hT.1 13
    have v14 : 0 ≤ τ4.1 14 ∧ τ4.1 14 ≤ 20000 := hT.1 14
    have v15 : 0 ≤ τ4.1 15 ∧ τ4.1 15 ≤ 20000 := hT.1 15
    have v16 : 0 ≤ τ4.1 16 ∧ τ4.1 16 ≤ 20000 := hT.1 16
    have v21 : 0 ≤ τ4.1 21 ∧ τ4.1 21 ≤ 20000 := hT.1 21
    have v22 : 0 ≤ τ4.1 22 ∧ τ4.1 22 ≤ 300 := hT.1 22
    have v23 : 0 ≤ τ4.1 23 ∧ τ4.1 23 ≤ 300 := hT.1 23
    have v24 : 0 ≤ τ4.1 24 ∧ τ4.1 24 ≤ 1499 := hT.1 24
    have v25 : 0 ≤ τ4.1 25 ∧ τ4.1 25 ≤ 3 := hT.1 25
    have v26 : 0 ≤ τ4.1 26 ∧ τ4.1 26 ≤ 5000010 := hT.1 26
    have v27 : 0 ≤ τ4.1 27 ∧ τ4.1 27 ≤ 1 := hT.1 27
    have v35 : 0 ≤ τ4.1 35 ∧ τ4.1 35 ≤ 7 := hT.1 35
    have v36 : 0 ≤ τ4.1 36 ∧ τ4.1 36 ≤ 1001 := hT.1 36
    have v37 : 0 ≤ τ4.1 37 ∧ τ4.1 37 ≤ 4 := hT.1 37
    have a14_7 : 0 ≤ τ4.2.1 14 (τ4.1 7) ∧ τ4.2.1 14 (τ4.1 7) ≤ 30000 := hT.2 14 _
    have a36_15 : 0 ≤ τ4.2.1 36 (τ4.1 15) ∧ τ4.2.1 36 (τ4.1 15) ≤ 20000 := hT.2 36 _
    have av7 : σ.1 7 ≤ τ4.1 7 := ag.1 7 (by decide)
    have av13 : σ.1 13 ≤ τ4.1 13 := ag.1 13 (by decide)
    have av14 : σ.1 14 ≤ τ4.1 14 := ag.1 14 (by decide)
    exact ⟨hT, (show 0 ≤ x3 ∧ x3 ≤ 19 from by (first | assumption | omega | (simp only [st_s] <;> omega) | fail)), (show J_ht (τ4.1 3) (τ4.2.1 2) (τ4.2.1 3) (τ4.2.1 5) (τ4.2.1 6) from HT), (show J_mn (τ4.1 3) (τ4.1 5) ((τ4.1 7) + 1) (τ4.2.1 4) from MN), (show J_rks (τ4.1 5) (τ4.1 4) (τ4.2.1 10) (τ4.2.1 11) from RKS), (show J_vs (τ4.1 8) (τ4.1 5) (τ4.2.1 20) from VS), (show J_vs (τ4.1 6) (τ4.1 5) (τ4.2.1 15) from TX), (show J_va (τ4.1 8) 1000 (τ4.2.1 18) (τ4.2.1 20) from VA), (show J_mk (τ4.1 11) (τ4.1 8) (τ4.1 9) (τ4.1 10) (τ4.2.1 25) from MK), (show J_sc (τ4.1 7) (τ4.1 9) (τ4.2.1 13) (τ4.2.1 14) (τ4.2.1 15) (τ4.2.1 16) (τ4.2.1 22) (τ4.2.1 19) from SC), (show J_ff (τ4.1 5) (τ4.1 7) (τ4.2.1 9) (τ4.2.1 13) (τ4.2.1 14) (τ4.2.1 15) from FF), (show ∀ s : Int, τ4.2.1 26 s ≤ (τ4.1 12) from MT), (show J_all (τ4.1 7) (τ4.1 6) (τ4.1 13) (τ4.1 14) (τ4.1 15) (τ4.2.1 13) (τ4.2.1 14) (τ4.2.1 15) (τ4.2.1 16) (τ4.2.1 10) (τ4.2.1 27) (τ4.2.1 28) (τ4.2.1 29) (τ4.2.1 30) (τ4.2.1 31) (τ4.2.1 32) (τ4.2.1 33) (τ4.2.1 34) (τ4.2.1 35) (τ4.2.1 36) (τ4.2.1 37) from CJ), (show J_bp (τ4.2.1 44) (τ4.2.1 45) from BP), (show J_nl (τ4.1 3) (τ4.2.1 2) (τ4.2.1 3) (τ4.2.1 4) from NL), (show x3 = 0 → J_rs (τ4.1 35) (τ4.1 7) (τ4.1 6) (τ4.1 36) (τ4.1 37) (τ4.1 5) (τ4.1 8) (τ4.2.1 14) from by (first | (intro z; exfalso; omega) | exact q5_15 | exact q8_15 | (first | (intro z; exfalso; omega) | (intro z; unfold J_rs; omega) | (intro z; unfold J_rs; rw [G14, W7]; omega)) | fail)), (show x3 = 0 → 5 ≤ (τ4.1 35) → 1 ≤ (τ4.1 36) → 0 ≤ τ4.2.1 10 (τ4.2.1 15 (τ4.2.1 14 (τ4.1 7))) from by (first | (intro z; exfalso; omega) | exact q5_16 | exact q8_16 | (first | (intro z; exfalso; omega) | (intro z y; exfalso; omega) | exact fun _ => uc | (intro z y y2; exact uc (by omega) (by omega)) | (intro z y y2; exfalso; omega) | (intro z y y2; rw [G10, G14, G15, W7]; exact uc (by omega) (by omega))) | fail)), (show x3 = 0 → (τ4.1 35) = 4 → j_in (τ4.1 36) 1000 (τ4.2.1 54) from by (first | (intro z; exfalso; omega) | exact q5_17 | exact q8_17 | (first | (intro z; exfalso; omega) | (intro z y; exfalso; omega) | exact fun _ => dj) | fail)), (show x3 = 0 → 5 ≤ (τ4.1 35) → J_ip (τ4.1 7) (τ4.1 6) (τ4.1 37) (τ4.2.1 14) (τ4.2.1 15) (τ4.2.1 16) (τ4.2.1 19) from by (first | (intro z; exfalso; omega) | exact q5_18 | exact q8_18 | (first | (intro z; exfalso; omega) | (intro z y; exfalso; omega) | exact fun _ => ipx | (intro z y; exact ipx (by omega)) | (intro z y; rw [W7, W6, W37, G14, G15, G16, G19]; exact ipx (by omega))) | fail)), (show x3 = 0 → ((τ4.1 35) ≤ 5 → (τ4.1 13) ≤ 60 * (τ4.1 7)) ∧ (τ4.1 13) ≤ 60 * (τ4.1 7) + 60 from by (first | (intro z; exfalso; omega) | exact q5_19 | exact q8_19 | (intro z; omega) | fail)), (show x3 = 0 → 6 ≤ (τ4.1 35) → (τ4.1 24) = (τ4.1 7) ∧ J_f (τ4.1 7) (τ4.1 13) (τ4.1 14) (τ4.2.1 13) (τ4.2.1 14) (τ4.2.1 15) (τ4.2.1 16) (τ4.2.1 27) (τ4.2.1 28) (τ4.2.1 29) (τ4.2.1 30) (τ4.2.1 31) (τ4.2.1 32) from by (first | (intro z; exfalso; omega) | exact q5_20 | exact q8_20 | (first | (intro z; exfalso; omega) | (intro z y; exfalso; omega) | exact fun _ => frx | (intro z y; exact frx (by omega)) | (intro z y; have w := frx (by omega); rw [W7, W13, W14, W24, G13, G14, G15, G16, G27, G28, G29, G30, G31, G32]; exact w)) | fail)), (show x3 = 0 → 6 ≤ (τ4.1 35) → J_sp (τ4.1 24) (τ4.1 21) (τ4.1 23) (τ4.1 22) (τ4.2.1 49) (τ4.2.1 51) ∧ ((τ4.1 16) + (τ4.1 21) ≤ 20000) ∧ (¬ (τ4.1 27) = 0 → 1 ≤ (τ4.1 21) ∧ 0 ≤ τ4.2.1 49 ((τ4.1 21) - 1) ∧ τ4.2.1 49 ((τ4.1 21) - 1) < 65536) ∧ ((τ4.1 26) ≤ 1000000) ∧ ((τ4.1 25) ≤ 2 → (τ4.1 27) = 0) from by (first | (intro z; exfalso; omega) | exact q5_21 | exact q8_21 | (first | (intro z; exfalso; omega) | (intro z y; exfalso; omega) | exact fun _ => spx | (intro z y; exact spx (by omega))) | fail)), (show x3 = 0 → (τ4.1 15) ≤ (τ4.1 16) ∧ τ4.2.1 36 (τ4.1 15) ≤ (τ4.1 16) from by (first | (intro z; exfalso; omega) | exact q5_22 | exact q8_22 | (intro z; first | exact sux | omega) | fail)), (show x3 = 0 → (τ4.1 9) ≤ (τ4.1 7) from by (first | (intro z; exfalso; omega) | exact q5_23 | exact q8_23 | (intro z; omega) | fail)), (show j_rr ((σ.1 5)) (σ.2.1 10) (τ4.2.1 10) from by (first | exact j_rr0 _ _ | exact q5_24 | exact q8_24 | (rw [G10]; exact j_rr0 _ _) | fail)), (show j_eq (σ.2.1 36 (σ.1 15)) (σ.2.1 37) (τ4.2.1 37) from CH), (show (τ4.1 12) ≤ (σ.1 12) + 1 from by (first | assumption | omega | (simp only [st_s] <;> omega) | fail)), (show c_Y σ τ4 from by (first | exact c_Y0 _ | exact c_Y_g W4 G11 G20 G22 G25 | exact q5_27 | exact q8_27 | exact c_Y_g (by omega) (by rw [g11_τ4]) (by rw [g20_τ4]) (by rw [g22_τ4]) (by rw [g25_τ4]) | exact c_Y_g (by omega) (by rw [g11_τ13]) (by rw [g20_τ13]) (by rw [g22_τ13]) (by rw [g25_τ13]) | exact c_Y_g (by omega) (by rw [g11_τ17]) (by rw [g20_τ17]) (by rw [g22_τ17]) (by rw [g25_τ17]) | fail)), ag⟩
  ·
    refine ⟨_, K_X7_endStatement hT (show J_ht (σ.1 3) (σ.2.1 2) (σ.2.1 3) (σ.2.1 5) (σ.2.1 6) from HT) (show J_mn (σ.1 3) (σ.1 5) ((σ.1 7) + 1) (σ.2.1 4) from MN) (show J_rks (σ.1 5) (σ.1 4) (σ.2.1 10) (σ.2.1 11) from RKS) (show J_vs (σ.1 8) (σ.1 5) (σ.2.1 20) from VS) (show J_vs (σ.1 6) (σ.1 5) (σ.2.1 15) from TX) (show J_va (σ.1 8) 1000 (σ.2.1 18) (σ.2.1 20) from VA) (show J_mk (σ.1 11) (σ.1 8) (σ.1 9) (σ.1 10) (σ.2.1 25) from MK) (show J_sc (σ.1 7) (σ.1 9) (σ.2.1 13) (σ.2.1 14) (σ.2.1 15) (σ.2.1 16) (σ.2.1 22) (σ.2.1 19) from SC) (show J_ff (σ.1 5) (σ.1 7) (σ.2.1 9) (σ.2.1 13) (σ.2.1 14) (σ.2.1 15) from FF) (show ∀ s : Int, σ.2.1 26 s ≤ (σ.1 12) from MT) (show J_all (σ.1 7) (σ.1 6) (σ.1 13) (σ.1 14) (σ.1 15) (σ.2.1 13) (σ.2.1 14) (σ.2.1 15) (σ.2.1 16) (σ.2.1 10) (σ.2.1 27) (σ.2.1 28) (σ.2.1 29) (σ.2.1 30) (σ.2.1 31) (σ.2.1 32) (σ.2.1 33) (σ.2.1 34) (σ.2.1 35) (σ.2.1 36) (σ.2.1 37) from CJ) (show J_bp (σ.2.1 44) (σ.2.1 45) from BP) (show J_nl (σ.1 3) (σ.2.1 2) (σ.2.1 3) (σ.2.1 4) from NL) (show J_rs (σ.1 35) (σ.1 7) (σ.1 6) (σ.1 36) (σ.1 37) (σ.1 5) (σ.1 8) (σ.2.1 14) from RS) (show 5 ≤ (σ.1 35) → 1 ≤ (σ.1 36) → 0 ≤ σ.2.1 10 (σ.2.1 15 (σ.2.1 14 (σ.1 7))) from by (first | assumption | omega | (simp only [st_s] <;> omega) | fail)) (show (σ.1 35) = 4 → j_in (σ.1 36) 1000 (σ.2.1 54) from by (first | assumption | omega | (simp only [st_s] <;> omega) | fail)) (show 5 ≤ (σ.1 35) → J_ip (σ.1 7) (σ.1 6) (σ.1 37) (σ.2.1 14) (σ.2.1 15) (σ.2.1 16) (σ.2.1 19) from by (first | assumption | omega | (simp only [st_s] <;> omega) | fail)) (show ((σ.1 35) ≤ 5 → (σ.1 13) ≤ 60 * (σ.1 7)) ∧ (σ.1 13) ≤ 60 * (σ.1 7) + 60 from by (first | assumption | omega | (simp only [st_s] <;> omega) | fail)) (show 6 ≤ (σ.1 35) → (σ.1 24) = (σ.1 7) ∧ J_f (σ.1 7) (σ.1 13) (σ.1 14) (σ.2.1 13) (σ.2.1 14) (σ.2.1 15) (σ.2.1 16) (σ.2.1 27) (σ.2.1 28) (σ.2.1 29) (σ.2.1 30) (σ.2.1 31) (σ.2.1 32) from by (first | assumption | omega | (simp only [st_s] <;> omega) | fail)) (show 6 ≤ (σ.1 35) → J_sp (σ.1 24) (σ.1 21) (σ.1 23) (σ.1 22) (σ.2.1 49) (σ.2.1 51) ∧ ((σ.1 16) + (σ.1 21) ≤ 20000) ∧ (¬ (σ.1 27) = 0 → 1 ≤ (σ.1 21) ∧ 0 ≤ σ.2.1 49 ((σ.1 21) - 1) ∧ σ.2.1 49 ((σ.1 21) - 1) < 65536) ∧ ((σ.1 26) ≤ 1000000) ∧ ((σ.1 25) ≤ 2 → (σ.1 27) = 0) from by (first | assumption | omega | (simp only [st_s] <;> omega) | fail)) (show (σ.1 15) ≤ (σ.1 16) ∧ σ.2.1 36 (σ.1 15) ≤ (σ.1 16) from by (first | assumption | omega | (simp only [st_s] <;> omega) | fail)) (show (σ.1 9) ≤ (σ.1 7) from by (first | assumption | omega | (simp only [st_s] <;> omega) | fail)) (show (σ.1 35) = 5 from by (first | assumption | omega | (simp only [st_s] <;> omega) | fail)) (show (σ.1 12) < 2147483647 from by (first | assumption | omega | (simp only [st_s] <;> omega) | fail)), ?_⟩
    intro x6 τ7 r_x6 hn_τ7 hf_τ7 hq
    obtain ⟨hT, q5_1, q5_2, q5_3, q5_4, q5_5, q5_6, q5_7, q5_8, q5_9, q5_10, q5_11, q5_12, q5_13, q5_14, q5_15, q5_16, q5_17, q5_18, q5_19, q5_20, q5_21, q5_22, q5_23, q5_24, q5_25, q5_26, q5_27, q5_28⟩ := hq
    replace q5_1 : 0 ≤ x6 ∧ x6 ≤ 19 := q5_1
    replace q5_2 : J_ht (τ7.1 3) (τ7.2.1 2) (τ7.2.1 3) (τ7.2.1 5) (τ7.2.1 6) := q5_2
    replace q5_3 : J_mn (τ7.1 3) (τ7.1 5) ((τ7.1 7) + 1) (τ7.2.1 4) := q5_3
    replace q5_4 : J_rks (τ7.1 5) (τ7.1 4) (τ7.2.1 10) (τ7.2.1 11) := q5_4
    replace q5_5 : J_vs (τ7.1 8) (τ7.1 5) (τ7.2.1 20) := q5_5
    replace q5_6 : J_vs (τ7.1 6) (τ7.1 5) (τ7.2.1 15) := q5_6
    replace q5_7 : J_va (τ7.1 8) 1000 (τ7.2.1 18) (τ7.2.1 20) := q5_7
    replace q5_8 : J_mk (τ7.1 11) (τ7.1 8) (τ7.1 9) (τ7.1 10) (τ7.2.1 25) := q5_8
    replace q5_9 : J_sc (τ7.1 7) (τ7.1 9) (τ7.2.1 13) (τ7.2.1 14) (τ7.2.1 15) (τ7.2.1 16) (τ7.2.1 22) (τ7.2.1 19) := q5_9
    replace q5_10 : J_ff (τ7.1 5) (τ7.1 7) (τ7.2.1 9) (τ7.2.1 13) (τ7.2.1 14) (τ7.2.1 15) := q5_10
    replace q5_11 : ∀ s : Int, τ7.2.1 26 s ≤ (τ7.1 12) := q5_11
    replace q5_12 : J_all (τ7.1 7) (τ7.1 6) (τ7.1 13) (τ7.1 14) (τ7.1 15) (τ7.2.1 13) (τ7.2.1 14) (τ7.2.1 15) (τ7.2.1 16) (τ7.2.1 10) (τ7.2.1 27) (τ7.2.1 28) (τ7.2.1 29) (τ7.2.1 30) (τ7.2.1 31) (τ7.2.1 32) (τ7.2.1 33) (τ7.2.1 34) (τ7.2.1 35) (τ7.2.1 36) (τ7.2.1 37) := q5_12
    replace q5_13 : J_bp (τ7.2.1 44) (τ7.2.1 45) := q5_13
    replace q5_14 : J_nl (τ7.1 3) (τ7.2.1 2) (τ7.2.1 3) (τ7.2.1 4) := q5_14
    replace q5_15 : x6 = 0 → J_rs (τ7.1 35) (τ7.1 7) (τ7.1 6) (τ7.1 36) (τ7.1 37) (τ7.1 5) (τ7.1 8) (τ7.2.1 14) := q5_15
    replace q5_16 : x6 = 0 → 5 ≤ (τ7.1 35) → 1 ≤ (τ7.1 36) → 0 ≤ τ7.2.1 10 (τ7.2.1 15 (τ7.2.1 14 (τ7.1 7))) := q5_16
    replace q5_17 : x6 = 0 → (τ7.1 35) = 4 → j_in (τ7.1 36) 1000 (τ7.2.1 54) := q5_17
    replace q5_18 : x6 = 0 → 5 ≤ (τ7.1 35) → J_ip (τ7.1 7) (τ7.1 6) (τ7.1 37) (τ7.2.1 14) (τ7.2.1 15) (τ7.2.1 16) (τ7.2.1 19) := q5_18
    replace q5_19 : x6 = 0 → ((τ7.1 35) ≤ 5 → (τ7.1 13) ≤ 60 * (τ7.1 7)) ∧ (τ7.1 13) ≤ 60 * (τ7.1 7) + 60 := q5_19
    replace q5_20 : x6 = 0 → 6 ≤ (τ7.1 35) → (τ7.1 24) = (τ7.1 7) ∧ J_f (τ7.1 7) (τ7.1 13) (τ7.1 14) (τ7.2.1 13) (τ7.2.1 14) (τ7.2.1 15) (τ7.2.1 16) (τ7.2.1 27) (τ7.2.1 28) (τ7.2.1 29) (τ7.2.1 30) (τ7.2.1 31) (τ7.2.1 32) := q5_20
    replace q5_21 : x6 = 0 → 6 ≤ (τ7.1 35) → J_sp (τ7.1 24) (τ7.1 21) (τ7.1 23) (τ7.1 22) (τ7.2.1 49) (τ7.2.1 51) ∧ ((τ7.1 16) + (τ7.1 21) ≤ 20000) ∧ (¬ (τ7.1 27) = 0 → 1 ≤ (τ7.1 21) ∧ 0 ≤ τ7.2.1 49 ((τ7.1 21) - 1) ∧ τ7.2.1 49 ((τ7.1 21) - 1) < 65536) ∧ ((τ7.1 26) ≤ 1000000) ∧ ((τ7.1 25) ≤ 2 → (τ7.1 27) = 0) := q5_21
    replace q5_22 : x6 = 0 → (τ7.1 15) ≤ (τ7.1 16) ∧ τ7.2.1 36 (τ7.1 15) ≤ (τ7.1 16) := q5_22
    replace q5_23 : x6 = 0 → (τ7.1 9) ≤ (τ7.1 7) := q5_23
    replace q5_24 : j_rr ((σ.1 5)) (σ.2.1 10) (τ7.2.1 10) := q5_24
    replace q5_25 : j_eq (σ.2.1 36 (σ.1 15)) (σ.2.1 37) (τ7.2.1 37) := q5_25
    replace q5_26 : (τ7.1 12) ≤ (σ.1 12) + 1 := q5_26
    replace q5_27 : c_Y σ τ7 := q5_27
    replace q5_28 : c_ag σ τ7 := q5_28
    replace ag : c_ag σ τ7 := ag_t ag q5_28 rfl
    have w3_τ7 : τ7.1 3 = σ.1 3 := hf_τ7.1 3 (by decide)
    have w4_τ7 : τ7.1 4 = σ.1 4 := hf_τ7.1 4 (by decide)
    have w5_τ7 : τ7.1 5 = σ.1 5 := hf_τ7.1 5 (by decide)
    have w6_τ7 : τ7.1 6 = σ.1 6 := hf_τ7.1 6 (by decide)
    have w8_τ7 : τ7.1 8 = σ.1 8 := hf_τ7.1 8 (by decide)
    have w10_τ7 : τ7.1 10 = σ.1 10 := hf_τ7.1 10 (by decide)
    have w11_τ7 : τ7.1 11 = σ.1 11 := hf_τ7.1 11 (by decide)
    have w15_τ7 : τ7.1 15 = σ.1 15 := hf_τ7.1 15 (by decide)
    have w16_τ7 : τ7.1 16 = σ.1 16 := hf_τ7.1 16 (by decide)
    have w21_τ7 : τ7.1 21 = σ.1 21 := hf_τ7.1 21 (by decide)
    have w22_τ7 : τ7.1 22 = σ.1 22 := hf_τ7.1 22 (by decide)
    have w23_τ7 : τ7.1 23 = σ.1 23 := hf_τ7.1 23 (by decide)
    have w24_τ7 : τ7.1 24 = σ.1 24 := hf_τ7.1 24 (by decide)
    have w25_τ7 : τ7.1 25 = σ.1 25 := hf_τ7.1 25 (by decide)
    have w26_τ7 : τ7.1 26 = σ.1 26 := hf_τ7.1 26 (by decide)
    have w27_τ7 : τ7.1 27 = σ.1 27 := hf_τ7.1 27 (by decide)
    have w36_τ7 : τ7.1 36 = σ.1 36 := hf_τ7.1 36 (by decide)
    have w37_τ7 : τ7.1 37 = σ.1 37 := hf_τ7.1 37 (by decide)
    have g2_τ7 : τ7.2.1 2 = σ.2.1 2 := hf_τ7.2.1 2 (by decide)
    have g3_τ7 : τ7.2.1 3 = σ.2.1 3 := hf_τ7.2.1 3 (by decide)
    have g4_τ7 : τ7.2.1 4 = σ.2.1 4 := hf_τ7.2.1 4 (by decide)
    have g5_τ7 : τ7.2.1 5 = σ.2.1 5 := hf_τ7.2.1 5 (by decide)
    have g6_τ7 : τ7.2.1 6 = σ.2.1 6 := hf_τ7.2.1 6 (by decide)
    have g8_τ7 : τ7.2.1 8 = σ.2.1 8 := hf_τ7.2.1 8 (by decide)
    have g10_τ7 : τ7.2.1 10 = σ.2.1 10 := hf_τ7.2.1 10 (by decide)
    have g11_τ7 : τ7.2.1 11 = σ.2.1 11 := hf_τ7.2.1 11 (by decide)
    have g14_τ7 : τ7.2.1 14 = σ.2.1 14 := hf_τ7.2.1 14 (by decide)
    have g15_τ7 : τ7.2.1 15 = σ.2.1 15 := hf_τ7.2.1 15 (by decide)
    have g16_τ7 : τ7.2.1 16 = σ.2.1 16 := hf_τ7.2.1 16 (by decide)
    have g18_τ7 : τ7.2.1 18 = σ.2.1 18 := hf_τ7.2.1 18 (by decide)
    have g20_τ7 : τ7.2.1 20 = σ.2.1 20 := hf_τ7.2.1 20 (by decide)
    have g23_τ7 : τ7.2.1 23 = σ.2.1 23 := hf_τ7.2.1 23 (by decide)
    have g24_τ7 : τ7.2.1 24 = σ.2.1 24 := hf_τ7.2.1 24 (by decide)
    have g25_τ7 : τ7.2.1 25 = σ.2.1 25 := hf_τ7.2.1 25 (by decide)
    have g33_τ7 : τ7.2.1 33 = σ.2.1 33 := hf_τ7.2.1 33 (by decide)
    have g34_τ7 : τ7.2.1 34 = σ.2.1 34 := hf_τ7.2.1 34 (by decide)
    have g35_τ7 : τ7.2.1 35 = σ.2.1 35 := hf_τ7.2.1 35 (by decide)
    have g36_τ7 : τ7.2.1 36 = σ.2.1 36 := hf_τ7.2.1 36 (by decide)
    have g37_τ7 : τ7.2.1 37 = σ.2.1 37 := hf_τ7.2.1 37 (by decide)
    have g44_τ7 : τ7.2.1 44 = σ.2.1 44 := hf_τ7.2.1 44 (by decide)
    have g45_τ7 : τ7.2.1 45 = σ.2.1 45 := hf_τ7.2.1 45 (by decide)
    have g49_τ7 : τ7.2.1 49 = σ.2.1 49 := hf_τ7.2.1 49 (by decide)
    have g51_τ7 : τ7.2.1 51 = σ.2.1 51 := hf_τ7.2.1 51 (by decide)
    have g54_τ7 : τ7.2.1 54 = σ.2.1 54 := hf_τ7.2.1 54 (by decide)
    have W3 : τ7.1 3 = σ.1 3 := by omega
    have W4 : τ7.1 4 = σ.1 4 := by omega
    have W5 : τ7.1 5 = σ.1 5 := by omega
    have W6 : τ7.1 6 = σ.1 6 := by omega
    have W8 : τ7.1 8 = σ.1 8 := by omega
    have W10 : τ7.1 10 = σ.1 10 := by omega
    have W11 : τ7.1 11 = σ.1 11 := by omega
    have W15 : τ7.1 15 = σ.1 15 := by omega
    have W16 : τ7.1 16 = σ.1 16 := by omega
    have W21 : τ7.1 21 = σ.1 21 := by omega
    have W22 : τ7.1 22 = σ.1 22 := by omega
    have W23 : τ7.1 23 = σ.1 23 := by omega
    have W24 : τ7.1 24 = σ.1 24 := by omega
    have W25 : τ7.1 25 = σ.1 25 := by omega
    have W26 : τ7.1 26 = σ.1 26 := by omega
    have W27 : τ7.1 27 = σ.1 27 := by omega
    have W36 : τ7.1 36 = σ.1 36 := by omega
    have W37 : τ7.1 37 = σ.1 37 := by omega
    have G2 : τ7.2.1 2 = σ.2.1 2 := (g2_τ7).trans G2
    have G3 : τ7.2.1 3 = σ.2.1 3 := (g3_τ7).trans G3
    have G4 : τ7.2.1 4 = σ.2.1 4 := (g4_τ7).trans G4
    have G5 : τ7.2.1 5 = σ.2.1 5 := (g5_τ7).trans G5
    have G6 : τ7.2.1 6 = σ.2.1 6 := (g6_τ7).trans G6
    have G8 : τ7.2.1 8 = σ.2.1 8 := (g8_τ7).trans G8
    have G10 : τ7.2.1 10 = σ.2.1 10 := (g10_τ7).trans G10
    have G11 : τ7.2.1 11 = σ.2.1 11 := (g11_τ7).trans G11
    have G14 : τ7.2.1 14 = σ.2.1 14 := (g14_τ7).trans G14
    have G15 : τ7.2.1 15 = σ.2.1 15 := (g15_τ7).trans G15
    have G16 : τ7.2.1 16 = σ.2.1 16 := (g16_τ7).trans G16
    have G18 : τ7.2.1 18 = σ.2.1 18 := (g18_τ7).trans G18
    have G20 : τ7.2.1 20 = σ.2.1 20 := (g20_τ7).trans G20
    have G23 : τ7.2.1 23 = σ.2.1 23 := (g23_τ7).trans G23
    have G24 : τ7.2.1 24 = σ.2.1 24 := (g24_τ7).trans G24
    have G25 : τ7.2.1 25 = σ.2.1 25 := (g25_τ7).trans G25
    have G33 : τ7.2.1 33 = σ.2.1 33 := (g33_τ7).trans G33
    have G34 : τ7.2.1 34 = σ.2.1 34 := (g34_τ7).trans G34
    have G35 : τ7.2.1 35 = σ.2.1 35 := (g35_τ7).trans G35
    have G36 : τ7.2.1 36 = σ.2.1 36 := (g36_τ7).trans G36
    have G37 : τ7.2.1 37 = σ.2.1 37 := (g37_τ7).trans G37
    have G44 : τ7.2.1 44 = σ.2.1 44 := (g44_τ7).trans G44
    have G45 : τ7.2.1 45 = σ.2.1 45 := (g45_τ7).trans G45
    have G49 : τ7.2.1 49 = σ.2.1 49 := (g49_τ7).trans G49
    have G51 : τ7.2.1 51 = σ.2.1 51 := (g51_τ7).trans G51
    have G54 : τ7.2.1 54 = σ.2.1 54 := (g54_τ7).trans G54
    have y36_15_τ7 : τ7.2.1 36 (τ7.1 15) = (σ.2.1 36) (σ.1 15) := by rw [g36_τ7, w15_τ7]
    have HT : J_ht (τ7.1 3) (τ7.2.1 2) (τ7.2.1 3) (τ7.2.1 5) (τ7.2.1 6) := q5_2
    have NL : J_nl (τ7.1 3) (τ7.2.1 2) (τ7.2.1 3) (τ7.2.1 4) := q5_14
    have MN : J_mn (τ7.1 3) (τ7.1 5) ((τ7.1 7) + 1) (τ7.2.1 4) := q5_3
    have VA : J_va (τ7.1 8) 1000 (τ7.2.1 18) (τ7.2.1 20) := q5_7
    have SC : J_sc (τ7.1 7) (τ7.1 9) (τ7.2.1 13) (τ7.2.1 14) (τ7.2.1 15) (τ7.2.1 16) (τ7.2.1 22) (τ7.2.1 19) := q5_9
    have MK : J_mk (τ7.1 11) (τ7.1 8) (τ7.1 9) (τ7.1 10) (τ7.2.1 25) := q5_8
    have FF : J_ff (τ7.1 5) (τ7.1 7) (τ7.2.1 9) (τ7.2.1 13) (τ7.2.1 14) (τ7.2.1 15) := q5_10
    have MT : ∀ s : Int, τ7.2.1 26 s ≤ (τ7.1 12) := q5_11
    have VS : J_vs (τ7.1 8) (τ7.1 5) (τ7.2.1 20) := q5_5
    have TX : J_vs (τ7.1 6) (τ7.1 5) (τ7.2.1 15) := q5_6
    have RKS : J_rks (τ7.1 5) (τ7.1 4) (τ7.2.1 10) (τ7.2.1 11) := q5_4
    have CJ : J_all (τ7.1 7) (τ7.1 6) (τ7.1 13) (τ7.1 14) (τ7.1 15) (τ7.2.1 13) (τ7.2.1 14) (τ7.2.1 15) (τ7.2.1 16) (τ7.2.1 10) (τ7.2.1 27) (τ7.2.1 28) (τ7.2.1 29) (τ7.2.1 30) (τ7.2.1 31) (τ7.2.1 32) (τ7.2.1 33) (τ7.2.1 34) (τ7.2.1 35) (τ7.2.1 36) (τ7.2.1 37) := q5_12
    have BP : J_bp (τ7.2.1 44) (τ7.2.1 45) := q5_13
    have CH : j_eq (σ.2.1 36 (σ.1 15)) (σ.2.1 37) (τ7.2.1 37) := by rw [show (j_eq (σ.2.1 36 (σ.1 15)) (σ.2.1 37) (τ7.2.1 37)) = (j_eq (σ.2.1 36 (σ.1 15)) (σ.2.1 37) (σ.2.1 37)) from by rw [g37_τ7]]; exact CH
    have A2 : ∀ j, 0 ≤ τ7.2.1 2 j ∧ τ7.2.1 2 j ≤ 65535 := fun j => hT.2 2 j
    have A3 : ∀ j, 0 ≤ τ7.2.1 3 j ∧ τ7.2.1 3 j ≤ 30000 := fun j => hT.2 3 j
    have A4 : ∀ j, (-1000) ≤ τ7.2.1 4 j ∧ τ7.2.1 4 j ≤ 1499 := fun j => hT.2 4 j
    have A5 : ∀ j, 0 ≤ τ7.2.1 5 j ∧ τ7.2.1 5 j ≤ 2500 := fun j => hT.2 5 j
    have A6 : ∀ j, 0 ≤ τ7.2.1 6 j ∧ τ7.2.1 6 j ≤ 2500 := fun j => hT.2 6 j
    have A8 : ∀ j, 0 ≤ τ7.2.1 8 j ∧ τ7.2.1 8 j ≤ 1 := fun j => hT.2 8 j
    have A9 : ∀ j, (-1) ≤ τ7.2.1 9 j ∧ τ7.2.1 9 j ≤ 1499 := fun j => hT.2 9 j
    have A10 : ∀ j, (-1) ≤ τ7.2.1 10 j ∧ τ7.2.1 10 j ≤ 99 := fun j => hT.2 10 j
    have A11 : ∀ j, 0 ≤ τ7.2.1 11 j ∧ τ7.2.1 11 j ≤ 999 := fun j => hT.2 11 j
    have A13 : ∀ j, 0 ≤ τ7.2.1 13 j ∧ τ7.2.1 13 j ≤ 4 := fun j => hT.2 13 j
    have A14 : ∀ j, 0 ≤ τ7.2.1 14 j ∧ τ7.2.1 14 j ≤ 30000 := fun j => hT.2 14 j
    have A15 : ∀ j, 0 ≤ τ7.2.1 15 j ∧ τ7.2.1 15 j ≤ 999 := fun j => hT.2 15 j
    have A16 : ∀ j, (-1) ≤ τ7.2.1 16 j ∧ τ7.2.1 16 j ≤ 1499 := fun j => hT.2 16 j
    have A18 : ∀ j, 0 ≤ τ7.2.1 18 j ∧ τ7.2.1 18 j ≤ 1 := fun j => hT.2 18 j
    have A19 : ∀ j, (-1) ≤ τ7.2.1 19 j ∧ τ7.2.1 19 j ≤ 1499 := fun j => hT.2 19 j
    have A20 : ∀ j, 0 ≤ τ7.2.1 20 j ∧ τ7.2.1 20 j ≤ 999 := fun j => hT.2 20 j
    have A22 : ∀ j, 0 ≤ τ7.2.1 22 j ∧ τ7.2.1 22 j ≤ 1499 := fun j => hT.2 22 j
    have A23 : ∀ j, 0 ≤ τ7.2.1 23 j ∧ τ7.2.1 23 j ≤ 999 := fun j => hT.2 23 j
    have A24 : ∀ j, 0 ≤ τ7.2.1 24 j ∧ τ7.2.1 24 j ≤ 999 := fun j => hT.2 24 j
    have A26 : ∀ j, (-2147483648) ≤ τ7.2.1 26 j ∧ τ7.2.1 26 j ≤ 2147483647 := fun j => hT.2 26 j
    have A27 : ∀ j, 0 ≤ τ7.2.1 27 j ∧ τ7.2.1 27 j ≤ 90000 := fun j => hT.2 27 j
    have A28 : ∀ j, 0 ≤ τ7.2.1 28 j ∧ τ7.2.1 28 j ≤ 60 := fun j => hT.2 28 j
    have A29 : ∀ j, 0 ≤ τ7.2.1 29 j ∧ τ7.2.1 29 j ≤ 1499 := fun j => hT.2 29 j
    have A30 : ∀ j, 0 ≤ τ7.2.1 30 j ∧ τ7.2.1 30 j ≤ 20000 := fun j => hT.2 30 j
    have A31 : ∀ j, 0 ≤ τ7.2.1 31 j ∧ τ7.2.1 31 j ≤ 20000 := fun j => hT.2 31 j
    have A32 : ∀ j, 0 ≤ τ7.2.1 32 j ∧ τ7.2.1 32 j ≤ 999999 := fun j => hT.2 32 j
    have A33 : ∀ j, 0 ≤ τ7.2.1 33 j ∧ τ7.2.1 33 j ≤ 20000 := fun j => hT.2 33 j
    have A34 : ∀ j, 0 ≤ τ7.2.1 34 j ∧ τ7.2.1 34 j ≤ 20000 := fun j => hT.2 34 j
    have A35 : ∀ j, 0 ≤ τ7.2.1 35 j ∧ τ7.2.1 35 j ≤ 1499 := fun j => hT.2 35 j
    have A36 : ∀ j, 0 ≤ τ7.2.1 36 j ∧ τ7.2.1 36 j ≤ 20000 := fun j => hT.2 36 j
    have A37 : ∀ j, 0 ≤ τ7.2.1 37 j ∧ τ7.2.1 37 j ≤ 19999 := fun j => hT.2 37 j
    have A44 : ∀ j, 0 ≤ τ7.2.1 44 j ∧ τ7.2.1 44 j ≤ 42000 := fun j => hT.2 44 j
    have A45 : ∀ j, 0 ≤ τ7.2.1 45 j ∧ τ7.2.1 45 j ≤ 1000 := fun j => hT.2 45 j
    have A49 : ∀ j, (-300) ≤ τ7.2.1 49 j ∧ τ7.2.1 49 j ≤ 67035 := fun j => hT.2 49 j
    have A51 : ∀ j, 0 ≤ τ7.2.1 51 j ∧ τ7.2.1 51 j ≤ 1499 := fun j => hT.2 51 j
    have A54 : ∀ j, 0 ≤ τ7.2.1 54 j ∧ τ7.2.1 54 j ≤ 999 := fun j => hT.2 54 j
    have v3 : 0 ≤ τ7.1 3 ∧ τ7.1 3 ≤ 2500 := hT.1 3
    have v4 : 0 ≤ τ7.1 4 ∧ τ7.1 4 ≤ 100 := hT.1 4
    have v5 : 0 ≤ τ7.1 5 ∧ τ7.1 5 ≤ 1000 := hT.1 5
    have v6 : 0 ≤ τ7.1 6 ∧ τ7.1 6 ≤ 30000 := hT.1 6
    have v7 : 0 ≤ τ7.1 7 ∧ τ7.1 7 ≤ 1500 := hT.1 7
    have v8 : 0 ≤ τ7.1 8 ∧ τ7.1 8 ≤ 1000 := hT.1 8
    have v9 : 0 ≤ τ7.1 9 ∧ τ7.1 9 ≤ 1500 := hT.1 9
    have v10 : 0 ≤ τ7.1 10 ∧ τ7.1 10 ≤ 1000 := hT.1 10
    have v11 : 0 ≤ τ7.1 11 ∧ τ7.1 11 ≤ 50 := hT.1 11
    have v12 : (-2147483648) ≤ τ7.1 12 ∧ τ7.1 12 ≤ 2147483647 := hT.1 12
    have v13 : 0 ≤ τ7.1 13 ∧ τ7.1 13 ≤ 90000 := hT.1 13
    have v14 : 0 ≤ τ7.1 14 ∧ τ7.1 14 ≤ 20000 := hT.1 14
    have v15 : 0 ≤ τ7.1 15 ∧ τ7.1 15 ≤ 20000 := hT.1 15
    have v16 : 0 ≤ τ7.1 16 ∧ τ7.1 16 ≤ 20000 := hT.1 16
    have v21 : 0 ≤ τ7.1 21 ∧ τ7.1 21 ≤ 20000 := hT.1 21
    have v22 : 0 ≤ τ7.1 22 ∧ τ7.1 22 ≤ 300 := hT.1 22
    have v23 : 0 ≤ τ7.1 23 ∧ τ7.1 23 ≤ 300 := hT.1 23
    have v24 : 0 ≤ τ7.1 24 ∧ τ7.1 24 ≤ 1499 := hT.1 24
    have v25 : 0 ≤ τ7.1 25 ∧ τ7.1 25 ≤ 3 := hT.1 25
    have v26 : 0 ≤ τ7.1 26 ∧ τ7.1 26 ≤ 5000010 := hT.1 26
    have v27 : 0 ≤ τ7.1 27 ∧ τ7.1 27 ≤ 1 := hT.1 27
    have v35 : 0 ≤ τ7.1 35 ∧ τ7.1 35 ≤ 7 := hT.1 35
    have v36 : 0 ≤ τ7.1 36 ∧ τ7.1 36 ≤ 1001 := hT.1 36
    have v37 : 0 ≤ τ7.1 37 ∧ τ7.1 37 ≤ 4 := hT.1 37
    have a14_7 : 0 ≤ τ7.2.1 14 (τ7.1 7) ∧ τ7.2.1 14 (τ7.1 7) ≤ 30000 := hT.2 14 _
    have a36_15 : 0 ≤ τ7.2.1 36 (τ7.1 15) ∧ τ7.2.1 36 (τ7.1 15) ≤ 20000 := hT.2 36 _
    have av7 : σ.1 7 ≤ τ7.1 7 := ag.1 7 (by decide)
    have av13 : σ.1 13 ≤ τ7.1 13 := ag.1 13 (by decide)
    have av14 : σ.1 14 ≤ τ7.1 14 := ag.1 14 (by decide)
    exact ⟨hT, (show 0 ≤ x6 ∧ x6 ≤ 19 from by (first | assumption | omega | (simp only [st_s] <;> omega) | fail)), (show J_ht (τ7.1 3) (τ7.2.1 2) (τ7.2.1 3) (τ7.2.1 5) (τ7.2.1 6) from HT), (show J_mn (τ7.1 3) (τ7.1 5) ((τ7.1 7) + 1) (τ7.2.1 4) from MN), (show J_rks (τ7.1 5) (τ7.1 4) (τ7.2.1 10) (τ7.2.1 11) from RKS), (show J_vs (τ7.1 8) (τ7.1 5) (τ7.2.1 20) from VS), (show J_vs (τ7.1 6) (τ7.1 5) (τ7.2.1 15) from TX), (show J_va (τ7.1 8) 1000 (τ7.2.1 18) (τ7.2.1 20) from VA), (show J_mk (τ7.1 11) (τ7.1 8) (τ7.1 9) (τ7.1 10) (τ7.2.1 25) from MK), (show J_sc (τ7.1 7) (τ7.1 9) (τ7.2.1 13) (τ7.2.1 14) (τ7.2.1 15) (τ7.2.1 16) (τ7.2.1 22) (τ7.2.1 19) from SC), (show J_ff (τ7.1 5) (τ7.1 7) (τ7.2.1 9) (τ7.2.1 13) (τ7.2.1 14) (τ7.2.1 15) from FF), (show ∀ s : Int, τ7.2.1 26 s ≤ (τ7.1 12) from MT), (show J_all (τ7.1 7) (τ7.1 6) (τ7.1 13) (τ7.1 14) (τ7.1 15) (τ7.2.1 13) (τ7.2.1 14) (τ7.2.1 15) (τ7.2.1 16) (τ7.2.1 10) (τ7.2.1 27) (τ7.2.1 28) (τ7.2.1 29) (τ7.2.1 30) (τ7.2.1 31) (τ7.2.1 32) (τ7.2.1 33) (τ7.2.1 34) (τ7.2.1 35) (τ7.2.1 36) (τ7.2.1 37) from CJ), (show J_bp (τ7.2.1 44) (τ7.2.1 45) from BP), (show J_nl (τ7.1 3) (τ7.2.1 2) (τ7.2.1 3) (τ7.2.1 4) from NL), (show x6 = 0 → J_rs (τ7.1 35) (τ7.1 7) (τ7.1 6) (τ7.1 36) (τ7.1 37) (τ7.1 5) (τ7.1 8) (τ7.2.1 14) from by (first | (intro z; exfalso; omega) | exact q5_15 | exact q8_15 | (first | (intro z; exfalso; omega) | (intro z; unfold J_rs; omega) | (intro z; unfold J_rs; rw [G14, W7]; omega)) | fail)), (show x6 = 0 → 5 ≤ (τ7.1 35) → 1 ≤ (τ7.1 36) → 0 ≤ τ7.2.1 10 (τ7.2.1 15 (τ7.2.1 14 (τ7.1 7))) from by (first | (intro z; exfalso; omega) | exact q5_16 | exact q8_16 | (first | (intro z; exfalso; omega) | (intro z y; exfalso; omega) | exact fun _ => uc | (intro z y y2; exact uc (by omega) (by omega)) | (intro z y y2; exfalso; omega) | (intro z y y2; rw [G10, G14, G15, W7]; exact uc (by omega) (by omega))) | fail)), (show x6 = 0 → (τ7.1 35) = 4 → j_in (τ7.1 36) 1000 (τ7.2.1 54) from by (first | (intro z; exfalso; omega) | exact q5_17 | exact q8_17 | (first | (intro z; exfalso; omega) | (intro z y; exfalso; omega) | exact fun _ => dj) | fail)), (show x6 = 0 → 5 ≤ (τ7.1 35) → J_ip (τ7.1 7) (τ7.1 6) (τ7.1 37) (τ7.2.1 14) (τ7.2.1 15) (τ7.2.1 16) (τ7.2.1 19) from by (first | (intro z; exfalso; omega) | exact q5_18 | exact q8_18 | (first | (intro z; exfalso; omega) | (intro z y; exfalso; omega) | exact fun _ => ipx | (intro z y; exact ipx (by omega)) | (intro z y; rw [W7, W6, W37, G14, G15, G16, G19]; exact ipx (by omega))) | fail)), (show x6 = 0 → ((τ7.1 35) ≤ 5 → (τ7.1 13) ≤ 60 * (τ7.1 7)) ∧ (τ7.1 13) ≤ 60 * (τ7.1 7) + 60 from by (first | (intro z; exfalso; omega) | exact q5_19 | exact q8_19 | (intro z; omega) | fail)), (show x6 = 0 → 6 ≤ (τ7.1 35) → (τ7.1 24) = (τ7.1 7) ∧ J_f (τ7.1 7) (τ7.1 13) (τ7.1 14) (τ7.2.1 13) (τ7.2.1 14) (τ7.2.1 15) (τ7.2.1 16) (τ7.2.1 27) (τ7.2.1 28) (τ7.2.1 29) (τ7.2.1 30) (τ7.2.1 31) (τ7.2.1 32) from by (first | (intro z; exfalso; omega) | exact q5_20 | exact q8_20 | (first | (intro z; exfalso; omega) | (intro z y; exfalso; omega) | exact fun _ => frx | (intro z y; exact frx (by omega)) | (intro z y; have w := frx (by omega); rw [W7, W13, W14, W24, G13, G14, G15, G16, G27, G28, G29, G30, G31, G32]; exact w)) | fail)), (show x6 = 0 → 6 ≤ (τ7.1 35) → J_sp (τ7.1 24) (τ7.1 21) (τ7.1 23) (τ7.1 22) (τ7.2.1 49) (τ7.2.1 51) ∧ ((τ7.1 16) + (τ7.1 21) ≤ 20000) ∧ (¬ (τ7.1 27) = 0 → 1 ≤ (τ7.1 21) ∧ 0 ≤ τ7.2.1 49 ((τ7.1 21) - 1) ∧ τ7.2.1 49 ((τ7.1 21) - 1) < 65536) ∧ ((τ7.1 26) ≤ 1000000) ∧ ((τ7.1 25) ≤ 2 → (τ7.1 27) = 0) from by (first | (intro z; exfalso; omega) | exact q5_21 | exact q8_21 | (first | (intro z; exfalso; omega) | (intro z y; exfalso; omega) | exact fun _ => spx | (intro z y; exact spx (by omega))) | fail)), (show x6 = 0 → (τ7.1 15) ≤ (τ7.1 16) ∧ τ7.2.1 36 (τ7.1 15) ≤ (τ7.1 16) from by (first | (intro z; exfalso; omega) | exact q5_22 | exact q8_22 | (intro z; first | exact sux | omega) | fail)), (show x6 = 0 → (τ7.1 9) ≤ (τ7.1 7) from by (first | (intro z; exfalso; omega) | exact q5_23 | exact q8_23 | (intro z; omega) | fail)), (show j_rr ((σ.1 5)) (σ.2.1 10) (τ7.2.1 10) from by (first | exact j_rr0 _ _ | exact q5_24 | exact q8_24 | (rw [G10]; exact j_rr0 _ _) | fail)), (show j_eq (σ.2.1 36 (σ.1 15)) (σ.2.1 37) (τ7.2.1 37) from CH), (show (τ7.1 12) ≤ (σ.1 12) + 1 from by (first | assumption | omega | (simp only [st_s] <;> omega) | fail)), (show c_Y σ τ7 from by (first | exact c_Y0 _ | exact c_Y_g W4 G11 G20 G22 G25 | exact q5_27 | exact q8_27 | exact c_Y_g (by omega) (by rw [g11_τ4]) (by rw [g20_τ4]) (by rw [g22_τ4]) (by rw [g25_τ4]) | exact c_Y_g (by omega) (by rw [g11_τ13]) (by rw [g20_τ13]) (by rw [g22_τ13]) (by rw [g25_τ13]) | exact c_Y_g (by omega) (by rw [g11_τ17]) (by rw [g20_τ17]) (by rw [g22_τ17]) (by rw [g25_τ17]) | fail)), ag⟩
  ·
    refine ⟨_, K_X7_endProof hT (show J_ht (σ.1 3) (σ.2.1 2) (σ.2.1 3) (σ.2.1 5) (σ.2.1 6) from HT) (show J_mn (σ.1 3) (σ.1 5) ((σ.1 7) + 1) (σ.2.1 4) from MN) (show J_rks (σ.1 5) (σ.1 4) (σ.2.1 10) (σ.2.1 11) from RKS) (show J_vs (σ.1 8) (σ.1 5) (σ.2.1 20) from VS) (show J_vs (σ.1 6) (σ.1 5) (σ.2.1 15) from TX) (show J_va (σ.1 8) 1000 (σ.2.1 18) (σ.2.1 20) from VA) (show J_mk (σ.1 11) (σ.1 8) (σ.1 9) (σ.1 10) (σ.2.1 25) from MK) (show J_sc (σ.1 7) (σ.1 9) (σ.2.1 13) (σ.2.1 14) (σ.2.1 15) (σ.2.1 16) (σ.2.1 22) (σ.2.1 19) from SC) (show J_ff (σ.1 5) (σ.1 7) (σ.2.1 9) (σ.2.1 13) (σ.2.1 14) (σ.2.1 15) from FF) (show ∀ s : Int, σ.2.1 26 s ≤ (σ.1 12) from MT) (show J_all (σ.1 7) (σ.1 6) (σ.1 13) (σ.1 14) (σ.1 15) (σ.2.1 13) (σ.2.1 14) (σ.2.1 15) (σ.2.1 16) (σ.2.1 10) (σ.2.1 27) (σ.2.1 28) (σ.2.1 29) (σ.2.1 30) (σ.2.1 31) (σ.2.1 32) (σ.2.1 33) (σ.2.1 34) (σ.2.1 35) (σ.2.1 36) (σ.2.1 37) from CJ) (show J_bp (σ.2.1 44) (σ.2.1 45) from BP) (show J_nl (σ.1 3) (σ.2.1 2) (σ.2.1 3) (σ.2.1 4) from NL) (show J_rs (σ.1 35) (σ.1 7) (σ.1 6) (σ.1 36) (σ.1 37) (σ.1 5) (σ.1 8) (σ.2.1 14) from RS) (show 5 ≤ (σ.1 35) → 1 ≤ (σ.1 36) → 0 ≤ σ.2.1 10 (σ.2.1 15 (σ.2.1 14 (σ.1 7))) from by (first | assumption | omega | (simp only [st_s] <;> omega) | fail)) (show (σ.1 35) = 4 → j_in (σ.1 36) 1000 (σ.2.1 54) from by (first | assumption | omega | (simp only [st_s] <;> omega) | fail)) (show 5 ≤ (σ.1 35) → J_ip (σ.1 7) (σ.1 6) (σ.1 37) (σ.2.1 14) (σ.2.1 15) (σ.2.1 16) (σ.2.1 19) from by (first | assumption | omega | (simp only [st_s] <;> omega) | fail)) (show ((σ.1 35) ≤ 5 → (σ.1 13) ≤ 60 * (σ.1 7)) ∧ (σ.1 13) ≤ 60 * (σ.1 7) + 60 from by (first | assumption | omega | (simp only [st_s] <;> omega) | fail)) (show 6 ≤ (σ.1 35) → (σ.1 24) = (σ.1 7) ∧ J_f (σ.1 7) (σ.1 13) (σ.1 14) (σ.2.1 13) (σ.2.1 14) (σ.2.1 15) (σ.2.1 16) (σ.2.1 27) (σ.2.1 28) (σ.2.1 29) (σ.2.1 30) (σ.2.1 31) (σ.2.1 32) from by (first | assumption | omega | (simp only [st_s] <;> omega) | fail)) (show 6 ≤ (σ.1 35) → J_sp (σ.1 24) (σ.1 21) (σ.1 23) (σ.1 22) (σ.2.1 49) (σ.2.1 51) ∧ ((σ.1 16) + (σ.1 21) ≤ 20000) ∧ (¬ (σ.1 27) = 0 → 1 ≤ (σ.1 21) ∧ 0 ≤ σ.2.1 49 ((σ.1 21) - 1) ∧ σ.2.1 49 ((σ.1 21) - 1) < 65536) ∧ ((σ.1 26) ≤ 1000000) ∧ ((σ.1 25) ≤ 2 → (σ.1 27) = 0) from by (first | assumption | omega | (simp only [st_s] <;> omega) | fail)) (show (σ.1 15) ≤ (σ.1 16) ∧ σ.2.1 36 (σ.1 15) ≤ (σ.1 16) from by (first | assumption | omega | (simp only [st_s] <;> omega) | fail)) (show (σ.1 9) ≤ (σ.1 7) from by (first | assumption | omega | (simp only [st_s] <;> omega) | fail)) (show (σ.1 35) = 6 from by (first | assumption | omega | (simp only [st_s] <;> omega) | fail)), ?_⟩
    intro x9 τ10 r_x9 hn_τ10 hf_τ10 hq
    obtain ⟨hT, q8_1, q8_2, q8_3, q8_4, q8_5, q8_6, q8_7, q8_8, q8_9, q8_10, q8_11, q8_12, q8_13, q8_14, q8_15, q8_16, q8_17, q8_18, q8_19, q8_20, q8_21, q8_22, q8_23, q8_24, q8_25, q8_26, q8_27, q8_28⟩ := hq
    replace q8_1 : 0 ≤ x9 ∧ x9 ≤ 19 := q8_1
    replace q8_2 : J_ht (τ10.1 3) (τ10.2.1 2) (τ10.2.1 3) (τ10.2.1 5) (τ10.2.1 6) := q8_2
    replace q8_3 : J_mn (τ10.1 3) (τ10.1 5) ((τ10.1 7) + 1) (τ10.2.1 4) := q8_3
    replace q8_4 : J_rks (τ10.1 5) (τ10.1 4) (τ10.2.1 10) (τ10.2.1 11) := q8_4
    replace q8_5 : J_vs (τ10.1 8) (τ10.1 5) (τ10.2.1 20) := q8_5
    replace q8_6 : J_vs (τ10.1 6) (τ10.1 5) (τ10.2.1 15) := q8_6
    replace q8_7 : J_va (τ10.1 8) 1000 (τ10.2.1 18) (τ10.2.1 20) := q8_7
    replace q8_8 : J_mk (τ10.1 11) (τ10.1 8) (τ10.1 9) (τ10.1 10) (τ10.2.1 25) := q8_8
    replace q8_9 : J_sc (τ10.1 7) (τ10.1 9) (τ10.2.1 13) (τ10.2.1 14) (τ10.2.1 15) (τ10.2.1 16) (τ10.2.1 22) (τ10.2.1 19) := q8_9
    replace q8_10 : J_ff (τ10.1 5) (τ10.1 7) (τ10.2.1 9) (τ10.2.1 13) (τ10.2.1 14) (τ10.2.1 15) := q8_10
    replace q8_11 : ∀ s : Int, τ10.2.1 26 s ≤ (τ10.1 12) := q8_11
    replace q8_12 : J_all (τ10.1 7) (τ10.1 6) (τ10.1 13) (τ10.1 14) (τ10.1 15) (τ10.2.1 13) (τ10.2.1 14) (τ10.2.1 15) (τ10.2.1 16) (τ10.2.1 10) (τ10.2.1 27) (τ10.2.1 28) (τ10.2.1 29) (τ10.2.1 30) (τ10.2.1 31) (τ10.2.1 32) (τ10.2.1 33) (τ10.2.1 34) (τ10.2.1 35) (τ10.2.1 36) (τ10.2.1 37) := q8_12
    replace q8_13 : J_bp (τ10.2.1 44) (τ10.2.1 45) := q8_13
    replace q8_14 : J_nl (τ10.1 3) (τ10.2.1 2) (τ10.2.1 3) (τ10.2.1 4) := q8_14
    replace q8_15 : x9 = 0 → J_rs (τ10.1 35) (τ10.1 7) (τ10.1 6) (τ10.1 36) (τ10.1 37) (τ10.1 5) (τ10.1 8) (τ10.2.1 14) := q8_15
    replace q8_16 : x9 = 0 → 5 ≤ (τ10.1 35) → 1 ≤ (τ10.1 36) → 0 ≤ τ10.2.1 10 (τ10.2.1 15 (τ10.2.1 14 (τ10.1 7))) := q8_16
    replace q8_17 : x9 = 0 → (τ10.1 35) = 4 → j_in (τ10.1 36) 1000 (τ10.2.1 54) := q8_17
    replace q8_18 : x9 = 0 → 5 ≤ (τ10.1 35) → J_ip (τ10.1 7) (τ10.1 6) (τ10.1 37) (τ10.2.1 14) (τ10.2.1 15) (τ10.2.1 16) (τ10.2.1 19) := q8_18
    replace q8_19 : x9 = 0 → ((τ10.1 35) ≤ 5 → (τ10.1 13) ≤ 60 * (τ10.1 7)) ∧ (τ10.1 13) ≤ 60 * (τ10.1 7) + 60 := q8_19
    replace q8_20 : x9 = 0 → 6 ≤ (τ10.1 35) → (τ10.1 24) = (τ10.1 7) ∧ J_f (τ10.1 7) (τ10.1 13) (τ10.1 14) (τ10.2.1 13) (τ10.2.1 14) (τ10.2.1 15) (τ10.2.1 16) (τ10.2.1 27) (τ10.2.1 28) (τ10.2.1 29) (τ10.2.1 30) (τ10.2.1 31) (τ10.2.1 32) := q8_20
    replace q8_21 : x9 = 0 → 6 ≤ (τ10.1 35) → J_sp (τ10.1 24) (τ10.1 21) (τ10.1 23) (τ10.1 22) (τ10.2.1 49) (τ10.2.1 51) ∧ ((τ10.1 16) + (τ10.1 21) ≤ 20000) ∧ (¬ (τ10.1 27) = 0 → 1 ≤ (τ10.1 21) ∧ 0 ≤ τ10.2.1 49 ((τ10.1 21) - 1) ∧ τ10.2.1 49 ((τ10.1 21) - 1) < 65536) ∧ ((τ10.1 26) ≤ 1000000) ∧ ((τ10.1 25) ≤ 2 → (τ10.1 27) = 0) := q8_21
    replace q8_22 : x9 = 0 → (τ10.1 15) ≤ (τ10.1 16) ∧ τ10.2.1 36 (τ10.1 15) ≤ (τ10.1 16) := q8_22
    replace q8_23 : x9 = 0 → (τ10.1 9) ≤ (τ10.1 7) := q8_23
    replace q8_24 : j_rr ((σ.1 5)) (σ.2.1 10) (τ10.2.1 10) := q8_24
    replace q8_25 : j_eq (σ.2.1 36 (σ.1 15)) (σ.2.1 37) (τ10.2.1 37) := q8_25
    replace q8_26 : (τ10.1 12) ≤ (σ.1 12) + 1 := q8_26
    replace q8_27 : c_Y σ τ10 := q8_27
    replace q8_28 : c_ag σ τ10 := q8_28
    replace ag : c_ag σ τ10 := ag_t ag q8_28 rfl
    have w3_τ10 : τ10.1 3 = σ.1 3 := hf_τ10.1 3 (by decide)
    have w4_τ10 : τ10.1 4 = σ.1 4 := hf_τ10.1 4 (by decide)
    have w5_τ10 : τ10.1 5 = σ.1 5 := hf_τ10.1 5 (by decide)
    have w6_τ10 : τ10.1 6 = σ.1 6 := hf_τ10.1 6 (by decide)
    have w7_τ10 : τ10.1 7 = σ.1 7 := hf_τ10.1 7 (by decide)
    have w8_τ10 : τ10.1 8 = σ.1 8 := hf_τ10.1 8 (by decide)
    have w9_τ10 : τ10.1 9 = σ.1 9 := hf_τ10.1 9 (by decide)
    have w10_τ10 : τ10.1 10 = σ.1 10 := hf_τ10.1 10 (by decide)
    have w11_τ10 : τ10.1 11 = σ.1 11 := hf_τ10.1 11 (by decide)
    have w12_τ10 : τ10.1 12 = σ.1 12 := hf_τ10.1 12 (by decide)
    have w13_τ10 : τ10.1 13 = σ.1 13 := hf_τ10.1 13 (by decide)
    have w14_τ10 : τ10.1 14 = σ.1 14 := hf_τ10.1 14 (by decide)
    have w15_τ10 : τ10.1 15 = σ.1 15 := hf_τ10.1 15 (by decide)
    have w16_τ10 : τ10.1 16 = σ.1 16 := hf_τ10.1 16 (by decide)
    have w21_τ10 : τ10.1 21 = σ.1 21 := hf_τ10.1 21 (by decide)
    have w22_τ10 : τ10.1 22 = σ.1 22 := hf_τ10.1 22 (by decide)
    have w23_τ10 : τ10.1 23 = σ.1 23 := hf_τ10.1 23 (by decide)
    have w24_τ10 : τ10.1 24 = σ.1 24 := hf_τ10.1 24 (by decide)
    have w25_τ10 : τ10.1 25 = σ.1 25 := hf_τ10.1 25 (by decide)
    have w26_τ10 : τ10.1 26 = σ.1 26 := hf_τ10.1 26 (by decide)
    have w27_τ10 : τ10.1 27 = σ.1 27 := hf_τ10.1 27 (by decide)
    have w36_τ10 : τ10.1 36 = σ.1 36 := hf_τ10.1 36 (by decide)
    have w37_τ10 : τ10.1 37 = σ.1 37 := hf_τ10.1 37 (by decide)
    have g2_τ10 : τ10.2.1 2 = σ.2.1 2 := hf_τ10.2.1 2 (by decide)
    have g3_τ10 : τ10.2.1 3 = σ.2.1 3 := hf_τ10.2.1 3 (by decide)
    have g4_τ10 : τ10.2.1 4 = σ.2.1 4 := hf_τ10.2.1 4 (by decide)
    have g5_τ10 : τ10.2.1 5 = σ.2.1 5 := hf_τ10.2.1 5 (by decide)
    have g6_τ10 : τ10.2.1 6 = σ.2.1 6 := hf_τ10.2.1 6 (by decide)
    have g8_τ10 : τ10.2.1 8 = σ.2.1 8 := hf_τ10.2.1 8 (by decide)
    have g9_τ10 : τ10.2.1 9 = σ.2.1 9 := hf_τ10.2.1 9 (by decide)
    have g10_τ10 : τ10.2.1 10 = σ.2.1 10 := hf_τ10.2.1 10 (by decide)
    have g11_τ10 : τ10.2.1 11 = σ.2.1 11 := hf_τ10.2.1 11 (by decide)
    have g13_τ10 : τ10.2.1 13 = σ.2.1 13 := hf_τ10.2.1 13 (by decide)
    have g14_τ10 : τ10.2.1 14 = σ.2.1 14 := hf_τ10.2.1 14 (by decide)
    have g15_τ10 : τ10.2.1 15 = σ.2.1 15 := hf_τ10.2.1 15 (by decide)
    have g16_τ10 : τ10.2.1 16 = σ.2.1 16 := hf_τ10.2.1 16 (by decide)
    have g18_τ10 : τ10.2.1 18 = σ.2.1 18 := hf_τ10.2.1 18 (by decide)
    have g19_τ10 : τ10.2.1 19 = σ.2.1 19 := hf_τ10.2.1 19 (by decide)
    have g20_τ10 : τ10.2.1 20 = σ.2.1 20 := hf_τ10.2.1 20 (by decide)
    have g22_τ10 : τ10.2.1 22 = σ.2.1 22 := hf_τ10.2.1 22 (by decide)
    have g23_τ10 : τ10.2.1 23 = σ.2.1 23 := hf_τ10.2.1 23 (by decide)
    have g24_τ10 : τ10.2.1 24 = σ.2.1 24 := hf_τ10.2.1 24 (by decide)
    have g25_τ10 : τ10.2.1 25 = σ.2.1 25 := hf_τ10.2.1 25 (by decide)
    have g26_τ10 : τ10.2.1 26 = σ.2.1 26 := hf_τ10.2.1 26 (by decide)
    have g27_τ10 : τ10.2.1 27 = σ.2.1 27 := hf_τ10.2.1 27 (by decide)
    have g28_τ10 : τ10.2.1 28 = σ.2.1 28 := hf_τ10.2.1 28 (by decide)
    have g29_τ10 : τ10.2.1 29 = σ.2.1 29 := hf_τ10.2.1 29 (by decide)
    have g30_τ10 : τ10.2.1 30 = σ.2.1 30 := hf_τ10.2.1 30 (by decide)
    have g31_τ10 : τ10.2.1 31 = σ.2.1 31 := hf_τ10.2.1 31 (by decide)
    have g32_τ10 : τ10.2.1 32 = σ.2.1 32 := hf_τ10.2.1 32 (by decide)
    have g33_τ10 : τ10.2.1 33 = σ.2.1 33 := hf_τ10.2.1 33 (by decide)
    have g34_τ10 : τ10.2.1 34 = σ.2.1 34 := hf_τ10.2.1 34 (by decide)
    have g35_τ10 : τ10.2.1 35 = σ.2.1 35 := hf_τ10.2.1 35 (by decide)
    have g36_τ10 : τ10.2.1 36 = σ.2.1 36 := hf_τ10.2.1 36 (by decide)
    have g37_τ10 : τ10.2.1 37 = σ.2.1 37 := hf_τ10.2.1 37 (by decide)
    have g44_τ10 : τ10.2.1 44 = σ.2.1 44 := hf_τ10.2.1 44 (by decide)
    have g45_τ10 : τ10.2.1 45 = σ.2.1 45 := hf_τ10.2.1 45 (by decide)
    have g49_τ10 : τ10.2.1 49 = σ.2.1 49 := hf_τ10.2.1 49 (by decide)
    have g51_τ10 : τ10.2.1 51 = σ.2.1 51 := hf_τ10.2.1 51 (by decide)
    have g54_τ10 : τ10.2.1 54 = σ.2.1 54 := hf_τ10.2.1 54 (by decide)
    have W3 : τ10.1 3 = σ.1 3 := by omega
    have W4 : τ10.1 4 = σ.1 4 := by omega
    have W5 : τ10.1 5 = σ.1 5 := by omega
    have W6 : τ10.1 6 = σ.1 6 := by omega
    have W8 : τ10.1 8 = σ.1 8 := by omega
    have W10 : τ10.1 10 = σ.1 10 := by omega
    have W11 : τ10.1 11 = σ.1 11 := by omega
    have W15 : τ10.1 15 = σ.1 15 := by omega
    have W16 : τ10.1 16 = σ.1 16 := by omega
    have W21 : τ10.1 21 = σ.1 21 := by omega
    have W22 : τ10.1 22 = σ.1 22 := by omega
    have W23 : τ10.1 23 = σ.1 23 := by omega
    have W24 : τ10.1 24 = σ.1 24 := by omega
    have W25 : τ10.1 25 = σ.1 25 := by omega
    have W26 : τ10.1 26 = σ.1 26 := by omega
    have W27 : τ10.1 27 = σ.1 27 := by omega
    have W36 : τ10.1 36 = σ.1 36 := by omega
    have W37 : τ10.1 37 = σ.1 37 := by omega
    have G2 : τ10.2.1 2 = σ.2.1 2 := (g2_τ10).trans G2
    have G3 : τ10.2.1 3 = σ.2.1 3 := (g3_τ10).trans G3
    have G4 : τ10.2.1 4 = σ.2.1 4 := (g4_τ10).trans G4
    have G5 : τ10.2.1 5 = σ.2.1 5 := (g5_τ10).trans G5
    have G6 : τ10.2.1 6 = σ.2.1 6 := (g6_τ10).trans G6
    have G8 : τ10.2.1 8 = σ.2.1 8 := (g8_τ10).trans G8
    have G10 : τ10.2.1 10 = σ.2.1 10 := (g10_τ10).trans G10
    have G11 : τ10.2.1 11 = σ.2.1 11 := (g11_τ10).trans G11
    have G14 : τ10.2.1 14 = σ.2.1 14 := (g14_τ10).trans G14
    have G15 : τ10.2.1 15 = σ.2.1 15 := (g15_τ10).trans G15
    have G16 : τ10.2.1 16 = σ.2.1 16 := (g16_τ10).trans G16
    have G18 : τ10.2.1 18 = σ.2.1 18 := (g18_τ10).trans G18
    have G20 : τ10.2.1 20 = σ.2.1 20 := (g20_τ10).trans G20
    have G23 : τ10.2.1 23 = σ.2.1 23 := (g23_τ10).trans G23
    have G24 : τ10.2.1 24 = σ.2.1 24 := (g24_τ10).trans G24
    have G25 : τ10.2.1 25 = σ.2.1 25 := (g25_τ10).trans G25
    have G33 : τ10.2.1 33 = σ.2.1 33 := (g33_τ10).trans G33
    have G34 : τ10.2.1 34 = σ.2.1 34 := (g34_τ10).trans G34
    have G35 : τ10.2.1 35 = σ.2.1 35 := (g35_τ10).trans G35
    have G36 : τ10.2.1 36 = σ.2.1 36 := (g36_τ10).trans G36
    have G37 : τ10.2.1 37 = σ.2.1 37 := (g37_τ10).trans G37
    have G44 : τ10.2.1 44 = σ.2.1 44 := (g44_τ10).trans G44
    have G45 : τ10.2.1 45 = σ.2.1 45 := (g45_τ10).trans G45
    have G49 : τ10.2.1 49 = σ.2.1 49 := (g49_τ10).trans G49
    have G51 : τ10.2.1 51 = σ.2.1 51 := (g51_τ10).trans G51
    have G54 : τ10.2.1 54 = σ.2.1 54 := (g54_τ10).trans G54
    have y14_7_τ10 : τ10.2.1 14 (τ10.1 7) = (σ.2.1 14) (σ.1 7) := by rw [g14_τ10, w7_τ10]
    have y36_15_τ10 : τ10.2.1 36 (τ10.1 15) = (σ.2.1 36) (σ.1 15) := by rw [g36_τ10, w15_τ10]
    have HT : J_ht (τ10.1 3) (τ10.2.1 2) (τ10.2.1 3) (τ10.2.1 5) (τ10.2.1 6) := q8_2
    have NL : J_nl (τ10.1 3) (τ10.2.1 2) (τ10.2.1 3) (τ10.2.1 4) := q8_14
    have MN : J_mn (τ10.1 3) (τ10.1 5) ((τ10.1 7) + 1) (τ10.2.1 4) := q8_3
    have VA : J_va (τ10.1 8) 1000 (τ10.2.1 18) (τ10.2.1 20) := q8_7
    have SC : J_sc (τ10.1 7) (τ10.1 9) (τ10.2.1 13) (τ10.2.1 14) (τ10.2.1 15) (τ10.2.1 16) (τ10.2.1 22) (τ10.2.1 19) := q8_9
    have MK : J_mk (τ10.1 11) (τ10.1 8) (τ10.1 9) (τ10.1 10) (τ10.2.1 25) := q8_8
    have FF : J_ff (τ10.1 5) (τ10.1 7) (τ10.2.1 9) (τ10.2.1 13) (τ10.2.1 14) (τ10.2.1 15) := q8_10
    have MT : ∀ s : Int, τ10.2.1 26 s ≤ (τ10.1 12) := q8_11
    have VS : J_vs (τ10.1 8) (τ10.1 5) (τ10.2.1 20) := q8_5
    have TX : J_vs (τ10.1 6) (τ10.1 5) (τ10.2.1 15) := q8_6
    have RKS : J_rks (τ10.1 5) (τ10.1 4) (τ10.2.1 10) (τ10.2.1 11) := q8_4
    have CJ : J_all (τ10.1 7) (τ10.1 6) (τ10.1 13) (τ10.1 14) (τ10.1 15) (τ10.2.1 13) (τ10.2.1 14) (τ10.2.1 15) (τ10.2.1 16) (τ10.2.1 10) (τ10.2.1 27) (τ10.2.1 28) (τ10.2.1 29) (τ10.2.1 30) (τ10.2.1 31) (τ10.2.1 32) (τ10.2.1 33) (τ10.2.1 34) (τ10.2.1 35) (τ10.2.1 36) (τ10.2.1 37) := q8_12
    have BP : J_bp (τ10.2.1 44) (τ10.2.1 45) := q8_13
    have CH : j_eq (σ.2.1 36 (σ.1 15)) (σ.2.1 37) (τ10.2.1 37) := by rw [show (j_eq (σ.2.1 36 (σ.1 15)) (σ.2.1 37) (τ10.2.1 37)) = (j_eq (σ.2.1 36 (σ.1 15)) (σ.2.1 37) (σ.2.1 37)) from by rw [g37_τ10]]; exact CH
    have A2 : ∀ j, 0 ≤ τ10.2.1 2 j ∧ τ10.2.1 2 j ≤ 65535 := fun j => hT.2 2 j
    have A3 : ∀ j, 0 ≤ τ10.2.1 3 j ∧ τ10.2.1 3 j ≤ 30000 := fun j => hT.2 3 j
    have A4 : ∀ j, (-1000) ≤ τ10.2.1 4 j ∧ τ10.2.1 4 j ≤ 1499 := fun j => hT.2 4 j
    have A5 : ∀ j, 0 ≤ τ10.2.1 5 j ∧ τ10.2.1 5 j ≤ 2500 := fun j => hT.2 5 j
    have A6 : ∀ j, 0 ≤ τ10.2.1 6 j ∧ τ10.2.1 6 j ≤ 2500 := fun j => hT.2 6 j
    have A8 : ∀ j, 0 ≤ τ10.2.1 8 j ∧ τ10.2.1 8 j ≤ 1 := fun j => hT.2 8 j
    have A9 : ∀ j, (-1) ≤ τ10.2.1 9 j ∧ τ10.2.1 9 j ≤ 1499 := fun j => hT.2 9 j
    have A10 : ∀ j, (-1) ≤ τ10.2.1 10 j ∧ τ10.2.1 10 j ≤ 99 := fun j => hT.2 10 j
    have A11 : ∀ j, 0 ≤ τ10.2.1 11 j ∧ τ10.2.1 11 j ≤ 999 := fun j => hT.2 11 j
    have A13 : ∀ j, 0 ≤ τ10.2.1 13 j ∧ τ10.2.1 13 j ≤ 4 := fun j => hT.2 13 j
    have A14 : ∀ j, 0 ≤ τ10.2.1 14 j ∧ τ10.2.1 14 j ≤ 30000 := fun j => hT.2 14 j
    have A15 : ∀ j, 0 ≤ τ10.2.1 15 j ∧ τ10.2.1 15 j ≤ 999 := fun j => hT.2 15 j
    have A16 : ∀ j, (-1) ≤ τ10.2.1 16 j ∧ τ10.2.1 16 j ≤ 1499 := fun j => hT.2 16 j
    have A18 : ∀ j, 0 ≤ τ10.2.1 18 j ∧ τ10.2.1 18 j ≤ 1 := fun j => hT.2 18 j
    have A19 : ∀ j, (-1) ≤ τ10.2.1 19 j ∧ τ10.2.1 19 j ≤ 1499 := fun j => hT.2 19 j
    have A20 : ∀ j, 0 ≤ τ10.2.1 20 j ∧ τ10.2.1 20 j ≤ 999 := fun j => hT.2 20 j
    have A22 : ∀ j, 0 ≤ τ10.2.1 22 j ∧ τ10.2.1 22 j ≤ 1499 := fun j => hT.2 22 j
    have A23 : ∀ j, 0 ≤ τ10.2.1 23 j ∧ τ10.2.1 23 j ≤ 999 := fun j => hT.2 23 j
    have A24 : ∀ j, 0 ≤ τ10.2.1 24 j ∧ τ10.2.1 24 j ≤ 999 := fun j => hT.2 24 j
    have A26 : ∀ j, (-2147483648) ≤ τ10.2.1 26 j ∧ τ10.2.1 26 j ≤ 2147483647 := fun j => hT.2 26 j
    have A27 : ∀ j, 0 ≤ τ10.2.1 27 j ∧ τ10.2.1 27 j ≤ 90000 := fun j => hT.2 27 j
    have A28 : ∀ j, 0 ≤ τ10.2.1 28 j ∧ τ10.2.1 28 j ≤ 60 := fun j => hT.2 28 j
    have A29 : ∀ j, 0 ≤ τ10.2.1 29 j ∧ τ10.2.1 29 j ≤ 1499 := fun j => hT.2 29 j
    have A30 : ∀ j, 0 ≤ τ10.2.1 30 j ∧ τ10.2.1 30 j ≤ 20000 := fun j => hT.2 30 j
    have A31 : ∀ j, 0 ≤ τ10.2.1 31 j ∧ τ10.2.1 31 j ≤ 20000 := fun j => hT.2 31 j
    have A32 : ∀ j, 0 ≤ τ10.2.1 32 j ∧ τ10.2.1 32 j ≤ 999999 := fun j => hT.2 32 j
    have A33 : ∀ j, 0 ≤ τ10.2.1 33 j ∧ τ10.2.1 33 j ≤ 20000 := fun j => hT.2 33 j
    have A34 : ∀ j, 0 ≤ τ10.2.1 34 j ∧ τ10.2.1 34 j ≤ 20000 := fun j => hT.2 34 j
    have A35 : ∀ j, 0 ≤ τ10.2.1 35 j ∧ τ10.2.1 35 j ≤ 1499 := fun j => hT.2 35 j
    have A36 : ∀ j, 0 ≤ τ10.2.1 36 j ∧ τ10.2.1 36 j ≤ 20000 := fun j => hT.2 36 j
    have A37 : ∀ j, 0 ≤ τ10.2.1 37 j ∧ τ10.2.1 37 j ≤ 19999 := fun j => hT.2 37 j
    have A44 : ∀ j, 0 ≤ τ10.2.1 44 j ∧ τ10.2.1 44 j ≤ 42000 := fun j => hT.2 44 j
    have A45 : ∀ j, 0 ≤ τ10.2.1 45 j ∧ τ10.2.1 45 j ≤ 1000 := fun j => hT.2 45 j
    have A49 : ∀ j, (-300) ≤ τ10.2.1 49 j ∧ τ10.2.1 49 j ≤ 67035 := fun j => hT.2 49 j
    have A51 : ∀ j, 0 ≤ τ10.2.1 51 j ∧ τ10.2.1 51 j ≤ 1499 := fun j => hT.2 51 j
    have A54 : ∀ j, 0 ≤ τ10.2.1 54 j ∧ τ10.2.1 54 j ≤ 999 := fun j => hT.2 54 j
    have v3 : 0 ≤ τ10.1 3 ∧ τ10.1 3 ≤ 2500 := hT.1 3
    have v4 : 0 ≤ τ10.1 4 ∧ τ10.1 4 ≤ 100 := hT.1 4
    have v5 : 0 ≤ τ10.1 5 ∧ τ10.1 5 ≤ 1000 := hT.1 5
    have v6 : 0 ≤ τ10.1 6 ∧ τ10.1 6 ≤ 30000 := hT.1 6
    have v7 : 0 ≤ τ10.1 7 ∧ τ10.1 7 ≤ 1500 := hT.1 7
    have v8 : 0 ≤ τ10.1 8 ∧ τ10.1 8 ≤ 1000 := hT.1 8
    have v9 : 0 ≤ τ10.1 9 ∧ τ10.1 9 ≤ 1500 := hT.1 9
    have v10 : 0 ≤ τ10.1 10 ∧ τ10.1 10 ≤ 1000 := hT.1 10
    have v11 : 0 ≤ τ10.1 11 ∧ τ10.1 11 ≤ 50 := hT.1 11
    have v12 : (-2147483648) ≤ τ10.1 12 ∧ τ10.1 12 ≤ 2147483647 := hT.1 12
    have v13 : 0 ≤ τ10.1 13 ∧ τ10.1 13 ≤ 90000 := hT.1 13
    have v14 : 0 ≤ τ10.1 14 ∧ τ10.1 14 ≤ 20000 := hT.1 14
    have v15 : 0 ≤ τ10.1 15 ∧ τ10.1 15 ≤ 20000 := hT.1 15
    have v16 : 0 ≤ τ10.1 16 ∧ τ10.1 16 ≤ 20000 := hT.1 16
    have v21 : 0 ≤ τ10.1 21 ∧ τ10.1 21 ≤ 20000 := hT.1 21
    have v22 : 0 ≤ τ10.1 22 ∧ τ10.1 22 ≤ 300 := hT.1 22
    have v23 : 0 ≤ τ10.1 23 ∧ τ10.1 23 ≤ 300 := hT.1 23
    have v24 : 0 ≤ τ10.1 24 ∧ τ10.1 24 ≤ 1499 := hT.1 24
    have v25 : 0 ≤ τ10.1 25 ∧ τ10.1 25 ≤ 3 := hT.1 25
    have v26 : 0 ≤ τ10.1 26 ∧ τ10.1 26 ≤ 5000010 := hT.1 26
    have v27 : 0 ≤ τ10.1 27 ∧ τ10.1 27 ≤ 1 := hT.1 27
    have v35 : 0 ≤ τ10.1 35 ∧ τ10.1 35 ≤ 7 := hT.1 35
    have v36 : 0 ≤ τ10.1 36 ∧ τ10.1 36 ≤ 1001 := hT.1 36
    have v37 : 0 ≤ τ10.1 37 ∧ τ10.1 37 ≤ 4 := hT.1 37
    have a14_7 : 0 ≤ τ10.2.1 14 (τ10.1 7) ∧ τ10.2.1 14 (τ10.1 7) ≤ 30000 := hT.2 14 _
    have a36_15 : 0 ≤ τ10.2.1 36 (τ10.1 15) ∧ τ10.2.1 36 (τ10.1 15) ≤ 20000 := hT.2 36 _
    have av7 : σ.1 7 ≤ τ10.1 7 := ag.1 7 (by decide)
    have av13 : σ.1 13 ≤ τ10.1 13 := ag.1 13 (by decide)
    have av14 : σ.1 14 ≤ τ10.1 14 := ag.1 14 (by decide)
    exact ⟨hT, (show 0 ≤ x9 ∧ x9 ≤ 19 from by (first | assumption | omega | (simp only [st_s] <;> omega) | fail)), (show J_ht (τ10.1 3) (τ10.2.1 2) (τ10.2.1 3) (τ10.2.1 5) (τ10.2.1 6) from HT), (show J_mn (τ10.1 3) (τ10.1 5) ((τ10.1 7) + 1) (τ10.2.1 4) from MN), (show J_rks (τ10.1 5) (τ10.1 4) (τ10.2.1 10) (τ10.2.1 11) from RKS), (show J_vs (τ10.1 8) (τ10.1 5) (τ10.2.1 20) from VS), (show J_vs (τ10.1 6) (τ10.1 5) (τ10.2.1 15) from TX), (show J_va (τ10.1 8) 1000 (τ10.2.1 18) (τ10.2.1 20) from VA), (show J_mk (τ10.1 11) (τ10.1 8) (τ10.1 9) (τ10.1 10) (τ10.2.1 25) from MK), (show J_sc (τ10.1 7) (τ10.1 9) (τ10.2.1 13) (τ10.2.1 14) (τ10.2.1 15) (τ10.2.1 16) (τ10.2.1 22) (τ10.2.1 19) from SC), (show J_ff (τ10.1 5) (τ10.1 7) (τ10.2.1 9) (τ10.2.1 13) (τ10.2.1 14) (τ10.2.1 15) from FF), (show ∀ s : Int, τ10.2.1 26 s ≤ (τ10.1 12) from MT), (show J_all (τ10.1 7) (τ10.1 6) (τ10.1 13) (τ10.1 14) (τ10.1 15) (τ10.2.1 13) (τ10.2.1 14) (τ10.2.1 15) (τ10.2.1 16) (τ10.2.1 10) (τ10.2.1 27) (τ10.2.1 28) (τ10.2.1 29) (τ10.2.1 30) (τ10.2.1 31) (τ10.2.1 32) (τ10.2.1 33) (τ10.2.1 34) (τ10.2.1 35) (τ10.2.1 36) (τ10.2.1 37) from CJ), (show J_bp (τ10.2.1 44) (τ10.2.1 45) from BP), (show J_nl (τ10.1 3) (τ10.2.1 2) (τ10.2.1 3) (τ10.2.1 4) from NL), (show x9 = 0 → J_rs (τ10.1 35) (τ10.1 7) (τ10.1 6) (τ10.1 36) (τ10.1 37) (τ10.1 5) (τ10.1 8) (τ10.2.1 14) from by (first | (intro z; exfalso; omega) | exact q5_15 | exact q8_15 | (first | (intro z; exfalso; omega) | (intro z; unfold J_rs; omega) | (intro z; unfold J_rs; rw [G14, W7]; omega)) | fail)), (show x9 = 0 → 5 ≤ (τ10.1 35) → 1 ≤ (τ10.1 36) → 0 ≤ τ10.2.1 10 (τ10.2.1 15 (τ10.2.1 14 (τ10.1 7))) from by (first | (intro z; exfalso; omega) | exact q5_16 | exact q8_16 | (first | (intro z; exfalso; omega) | (intro z y; exfalso; omega) | exact fun _ => uc | (intro z y y2; exact uc (by omega) (by omega)) | (intro z y y2; exfalso; omega) | (intro z y y2; rw [G10, G14, G15, W7]; exact uc (by omega) (by omega))) | fail)), (show x9 = 0 → (τ10.1 35) = 4 → j_in (τ10.1 36) 1000 (τ10.2.1 54) from by (first | (intro z; exfalso; omega) | exact q5_17 | exact q8_17 | (first | (intro z; exfalso; omega) | (intro z y; exfalso; omega) | exact fun _ => dj) | fail)), (show x9 = 0 → 5 ≤ (τ10.1 35) → J_ip (τ10.1 7) (τ10.1 6) (τ10.1 37) (τ10.2.1 14) (τ10.2.1 15) (τ10.2.1 16) (τ10.2.1 19) from by (first | (intro z; exfalso; omega) | exact q5_18 | exact q8_18 | (first | (intro z; exfalso; omega) | (intro z y; exfalso; omega) | exact fun _ => ipx | (intro z y; exact ipx (by omega)) | (intro z y; rw [W7, W6, W37, G14, G15, G16, G19]; exact ipx (by omega))) | fail)), (show x9 = 0 → ((τ10.1 35) ≤ 5 → (τ10.1 13) ≤ 60 * (τ10.1 7)) ∧ (τ10.1 13) ≤ 60 * (τ10.1 7) + 60 from by (first | (intro z; exfalso; omega) | exact q5_19 | exact q8_19 | (intro z; omega) | fail)), (show x9 = 0 → 6 ≤ (τ10.1 35) → (τ10.1 24) = (τ10.1 7) ∧ J_f (τ10.1 7) (τ10.1 13) (τ10.1 14) (τ10.2.1 13) (τ10.2.1 14) (τ10.2.1 15) (τ10.2.1 16) (τ10.2.1 27) (τ10.2.1 28) (τ10.2.1 29) (τ10.2.1 30) (τ10.2.1 31) (τ10.2.1 32) from by (first | (intro z; exfalso; omega) | exact q5_20 | exact q8_20 | (first | (intro z; exfalso; omega) | (intro z y; exfalso; omega) | exact fun _ => frx | (intro z y; exact frx (by omega)) | (intro z y; have w := frx (by omega); rw [W7, W13, W14, W24, G13, G14, G15, G16, G27, G28, G29, G30, G31, G32]; exact w)) | fail)), (show x9 = 0 → 6 ≤ (τ10.1 35) → J_sp (τ10.1 24) (τ10.1 21) (τ10.1 23) (τ10.1 22) (τ10.2.1 49) (τ10.2.1 51) ∧ ((τ10.1 16) + (τ10.1 21) ≤ 20000) ∧ (¬ (τ10.1 27) = 0 → 1 ≤ (τ10.1 21) ∧ 0 ≤ τ10.2.1 49 ((τ10.1 21) - 1) ∧ τ10.2.1 49 ((τ10.1 21) - 1) < 65536) ∧ ((τ10.1 26) ≤ 1000000) ∧ ((τ10.1 25) ≤ 2 → (τ10.1 27) = 0) from by (first | (intro z; exfalso; omega) | exact q5_21 | exact q8_21 | (first | (intro z; exfalso; omega) | (intro z y; exfalso; omega) | exact fun _ => spx | (intro z y; exact spx (by omega))) | fail)), (show x9 = 0 → (τ10.1 15) ≤ (τ10.1 16) ∧ τ10.2.1 36 (τ10.1 15) ≤ (τ10.1 16) from by (first | (intro z; exfalso; omega) | exact q5_22 | exact q8_22 | (intro z; first | exact sux | omega) | fail)), (show x9 = 0 → (τ10.1 9) ≤ (τ10.1 7) from by (first | (intro z; exfalso; omega) | exact q5_23 | exact q8_23 | (intro z; omega) | fail)), (show j_rr ((σ.1 5)) (σ.2.1 10) (τ10.2.1 10) from by (first | exact j_rr0 _ _ | exact q5_24 | exact q8_24 | (rw [G10]; exact j_rr0 _ _) | fail)), (show j_eq (σ.2.1 36 (σ.1 15)) (σ.2.1 37) (τ10.2.1 37) from CH), (show (τ10.1 12) ≤ (σ.1 12) + 1 from by (first | assumption | omega | (simp only [st_s] <;> omega) | fail)), (show c_Y σ τ10 from by (first | exact c_Y0 _ | exact c_Y_g W4 G11 G20 G22 G25 | exact q5_27 | exact q8_27 | exact c_Y_g (by omega) (by rw [g11_τ4]) (by rw [g20_τ4]) (by rw [g22_τ4]) (by rw [g25_τ4]) | exact c_Y_g (by omega) (by rw [g11_τ13]) (by rw [g20_τ13]) (by rw [g22_τ13]) (by rw [g25_τ13]) | exact c_Y_g (by omega) (by rw [g11_τ17]) (by rw [g20_τ17]) (by rw [g22_τ17]) (by rw [g25_τ17]) | fail)), ag⟩
