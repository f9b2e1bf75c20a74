-- pure: the reader, token by token
/-- where a text stands -/
def J_rs (s n us it kk sy vc : Int) (a : Int → Int) : Prop := (s ≤ 4 → a n = us) ∧ (5 ≤ s → a n + it = us ∧ n < 1500 ∧ it ≤ 300 ∧ (1 ≤ it → a (n + 1) = us)) ∧ (s = 1 → n < 1500) ∧ (s = 2 → it ≤ sy) ∧ (s = 3 → it ≤ vc) ∧ (s = 5 → kk = 0 → it ≤ 2) ∧ (6 ≤ s → 1 ≤ it ∧ kk = 3) ∧ (5 ≤ s → kk ≤ 3)
def J_uc (s it r : Int) : Prop := 5 ≤ s → 1 ≤ it → 0 ≤ r
def J_dj (s it : Int) (d : Int → Int) : Prop := s = 4 → j_in it 1000 d
def J_it (s n us kk : Int) (a tx fl af : Int → Int) : Prop := 5 ≤ s → J_ip n us kk a tx fl af
def J_hu (s hu n : Int) : Prop := (s ≤ 5 → hu ≤ 60 * n) ∧ hu ≤ 60 * n + 60
def J_ft (s th n hu pr : Int) (kd a tx fl fa fs hy pa ps pq : Int → Int) : Prop := 6 ≤ s → th = n ∧ J_f n hu pr kd a tx fl fa fs hy pa ps pq
def J_ss (s th cnt sc lc aa nu fo sA : Int) (stp lst : Int → Int) : Prop := 6 ≤ s → J_sp th cnt sc lc stp lst ∧ sA + cnt ≤ 20000 ∧ (¬ aa = 0 → 1 ≤ cnt ∧ 0 ≤ stp (cnt - 1) ∧ stp (cnt - 1) < 65536) ∧ nu ≤ 1000000 ∧ (fo ≤ 2 → aa = 0)
theorem J_rs_5 {s n us it kk sy vc : Int} {a : Int → Int} (h : J_rs s n us it kk sy vc a) (s5 : 5 ≤ s) : a n + it = us ∧ n < 1500 ∧ it ≤ 300 := ⟨(h.2.1 s5).1, (h.2.1 s5).2.1, (h.2.1 s5).2.2.1⟩
theorem J_rs_a {s n us it kk sy vc : Int} {a : Int → Int} (h : J_rs s n us it kk sy vc a) (s5 : 5 ≤ s) (i1 : 1 ≤ it) : a (n + 1) = us := (h.2.1 s5).2.2.2 i1
theorem J_rs_6 {s n us it kk sy vc : Int} {a : Int → Int} (h : J_rs s n us it kk sy vc a) (s6 : 6 ≤ s) : 1 ≤ it ∧ kk = 3 := h.2.2.2.2.2.2.1 s6
theorem J_rs_4 {s n us it kk sy vc : Int} {a : Int → Int} (h : J_rs s n us it kk sy vc a) (s5 : 5 ≤ s) : kk ≤ 3 := h.2.2.2.2.2.2.2 s5
theorem J_rs_1 {s n us it kk sy vc : Int} {a : Int → Int} (h : J_rs s n us it kk sy vc a) (s1 : s = 1) : n < 1500 := h.2.2.1 s1
theorem J_rs_2 {s n us it kk sy vc : Int} {a : Int → Int} (h : J_rs s n us it kk sy vc a) (s2 : s = 2) : it ≤ sy := h.2.2.2.1 s2
theorem J_rs_3 {s n us it kk sy vc : Int} {a : Int → Int} (h : J_rs s n us it kk sy vc a) (s3 : s = 3) : it ≤ vc := h.2.2.2.2.1 s3
theorem J_rs_k {s n us it kk sy vc : Int} {a : Int → Int} (h : J_rs s n us it kk sy vc a) (s5 : s = 5) (k : kk = 0) : it ≤ 2 := h.2.2.2.2.2.1 s5 k
theorem J_rs_0 {s n us it kk sy vc : Int} {a : Int → Int} (h : J_rs s n us it kk sy vc a) (s4 : s ≤ 4) : a n = us := h.1 s4
theorem c_JF {n us hc : Int} {kd a tx fl rk hyp af : Int → Int} (hJ : ∀ i : Int, 0 ≤ i → i < n → J_t i us kd a tx fl rk) (sc : J_sc n hc kd a tx fl hyp af) (h0 : ∀ m, 0 ≤ hyp m) (ub : us ≤ 30000) : J_hfa hc kd a hyp := fun m m0 m1 k => by
  obtain ⟨⟨a1, a2, a3, a4, _⟩, _, _⟩ := hJ _ (h0 m) (sc.1 m m0 m1).1
  have := a4 k
  omega
theorem c_FP {sy n us : Int} {ff kd a tx fl rk : Int → Int} (hJ : ∀ i : Int, 0 ≤ i → i < n → J_t i us kd a tx fl rk) (h : J_ff sy n ff kd a tx) (ub : us ≤ 30000) : ∀ s : Int, 0 ≤ s → s < sy → 0 ≤ ff s → a (ff s) < 30000 := fun s s0 s1 s2 => by
  obtain ⟨b1, b2, b3⟩ := h s s0 s1 s2
  obtain ⟨⟨a1, a2, a3, a4, _⟩, _, _⟩ := hJ _ s2 b1
  omega
/-- statement n is kept -/
theorem c_J_new {σ τ : S0} {n : Int} (h : c_Jn n τ) (hn : τ.1 7 = n + 1) (h1 : J_t n (τ.1 6) (τ.2.1 13) (τ.2.1 14) (τ.2.1 15) (τ.2.1 16) (τ.2.1 10)) (h2 : 2 ≤ τ.2.1 13 n → J_f n (τ.1 13) (τ.1 14) (τ.2.1 13) (τ.2.1 14) (τ.2.1 15) (τ.2.1 16) (τ.2.1 27) (τ.2.1 28) (τ.2.1 29) (τ.2.1 30) (τ.2.1 31) (τ.2.1 32)) (h3 : τ.2.1 13 n = 3 → J_r n (τ.1 15) (τ.2.1 13) (τ.2.1 28) (τ.2.1 33) (τ.2.1 34) (τ.2.1 35) (τ.2.1 36) (τ.2.1 37)) : c_J τ := by
  have := J_all_add h h1 h2 h3
  rw [← hn] at this; exact this
theorem c_S_k {σ τ : S0} (h : c_S σ) (hJ : c_J σ) (hT : c_T σ) (g : c_ag σ τ) (n : τ.1 7 = σ.1 7) (hc : τ.1 9 = σ.1 9) (hy : τ.2.1 22 = σ.2.1 22) (af : τ.2.1 19 = σ.2.1 19) : J_sc (σ.1 7) (σ.1 9) (τ.2.1 13) (τ.2.1 14) (τ.2.1 15) (τ.2.1 16) (τ.2.1 22) (τ.2.1 19) := by
  rw [hy, af]
  exact J_sc_x h (J_te_g g) (c_Jt hJ) (fun m => (hT.2 22 m).1) (Int.le_refl _)
theorem c_S_n {σ τ : S0} (h : c_S σ) (hJ : c_J σ) (hT : c_T σ) (g : c_ag σ τ) (hy : τ.2.1 22 = σ.2.1 22) (af : τ.2.1 19 = σ.2.1 19) : J_sc (σ.1 7) (σ.1 9) (τ.2.1 13) (τ.2.1 14) (τ.2.1 15) (τ.2.1 16) (τ.2.1 22) (τ.2.1 19) := by
  rw [hy, af]
  exact J_sc_x h (J_te_g g) (c_Jt hJ) (fun m => (hT.2 22 m).1) (Int.le_refl _)
/-- a frame is that of the same statement, whatever kind that gets -/
theorem J_f_k {n hu pr k : Int} {kd a tx fl fa fs hy pa ps pq : Int → Int} (h : J_f n hu pr kd a tx fl fa fs hy pa ps pq) : J_f n hu pr (st kd n k) a tx fl fa fs hy pa ps pq := by
  obtain ⟨h1, h2, h3, h4, h5, h6⟩ := h
  have hk : ∀ w : Int, 0 ≤ w → w < fs n → st kd n k (hy (fa n + w)) = kd (hy (fa n + w)) := fun w w0 w1 => st_n _ _ (by have := (h2 w w0 w1).1; omega)
  have vf : ∀ v, J_vf n v kd a tx fa fs hy → J_vf n v (st kd n k) a tx fa fs hy := fun v ⟨w, w0, w1, w2, w3⟩ => ⟨w, w0, w1, by rw [st_n _ _ (show hy (fa n + w) ≠ n from by have := (h2 w w0 w1).1; omega)]; exact w2, w3⟩
  exact ⟨h1, fun w w0 w1 => by have q := h2 w w0 w1; rw [st_n _ _ (show hy (fa n + w) ≠ n from by omega)]; exact q, h3, fun q q0 q1 => ⟨vf _ (h4 q q0 q1).1, vf _ (h4 q q0 q1).2⟩, by
    rcases h5 with ⟨w, w0, w1, w2⟩ | h5
    · exact Or.inl ⟨w, w0, w1, by rw [hk w w0 w1]; exact w2⟩
    · exact Or.inr fun w w0 w1 => by rw [hk w w0 w1]; exact h5 w w0 w1, fun w o o0 o1 w1 z1 z2 => by
    rw [hk o o0 (by omega)] at z1; rw [hk w (by omega) w1] at z2
    exact h6 w o o0 o1 w1 z1 z2⟩
theorem J_r_k {n ru k : Int} {kd fs ra rc rs ca ch : Int → Int} (h : J_r n ru kd fs ra rc rs ca ch) : J_r n ru (st kd n k) fs ra rc rs ca ch := ⟨h.1, fun r a b => by
  obtain ⟨h1, h2, h3⟩ := h.2 r a b
  rw [st_n _ _ (show rs r ≠ n from by omega)]; exact ⟨h1, h2, h3⟩⟩
set_option maxHeartbeats 4000000 in
theorem K_X7_word {n1 : Int} {n2 : Int} {σ : S0} (hT : c_T σ) (p1 : J_ht (σ.1 3) (σ.2.1 2) (σ.2.1 3) (σ.2.1 5) (σ.2.1 6)) (p2 : J_mn (σ.1 3) (σ.1 5) ((σ.1 7) + 1) (σ.2.1 4)) (p3 : J_rks (σ.1 5) (σ.1 4) (σ.2.1 10) (σ.2.1 11)) (p4 : J_vs (σ.1 8) (σ.1 5) (σ.2.1 20)) (p5 : J_vs (σ.1 6) (σ.1 5) (σ.2.1 15)) (p6 : J_va (σ.1 8) 1000 (σ.2.1 18) (σ.2.1 20)) (p7 : J_mk (σ.1 11) (σ.1 8) (σ.1 9) (σ.1 10) (σ.2.1 25)) (p8 : J_sc (σ.1 7) (σ.1 9) (σ.2.1 13) (σ.2.1 14) (σ.2.1 15) (σ.2.1 16) (σ.2.1 22) (σ.2.1 19)) (p9 : J_ff (σ.1 5) (σ.1 7) (σ.2.1 9) (σ.2.1 13) (σ.2.1 14) (σ.2.1 15)) (p10 : ∀ s : Int, σ.2.1 26 s ≤ (σ.1 12)) (p11 : J_all (σ.1 7) (σ.1 6) (σ.1 13) (σ.1 14) (σ.1 15) (σ.2.1 13) (σ.2.1 14) (σ.2.1 15) (σ.2.1 16) (σ.2.1 10) (σ.2.1 27) (σ.2.1 28) (σ.2.1 29) (σ.2.1 30) (σ.2.1 31) (σ.2.1 32) (σ.2.1 33) (σ.2.1 34) (σ.2.1 35) (σ.2.1 36) (σ.2.1 37)) (p12 : J_bp (σ.2.1 44) (σ.2.1 45)) (p13 : J_nl (σ.1 3) (σ.2.1 2) (σ.2.1 3) (σ.2.1 4)) (p14 : J_rs (σ.1 35) (σ.1 7) (σ.1 6) (σ.1 36) (σ.1 37) (σ.1 5) (σ.1 8) (σ.2.1 14)) (p15 : J_uc (σ.1 35) (σ.1 36) (σ.2.1 10 (σ.2.1 15 (σ.2.1 14 (σ.1 7))))) (p16 : J_dj (σ.1 35) (σ.1 36) (σ.2.1 54)) (p17 : J_it (σ.1 35) (σ.1 7) (σ.1 6) (σ.1 37) (σ.2.1 14) (σ.2.1 15) (σ.2.1 16) (σ.2.1 19)) (p18 : J_hu (σ.1 35) (σ.1 13) (σ.1 7)) (p19 : J_ft (σ.1 35) (σ.1 24) (σ.1 7) (σ.1 13) (σ.1 14) (σ.2.1 13) (σ.2.1 14) (σ.2.1 15) (σ.2.1 16) (σ.2.1 27) (σ.2.1 28) (σ.2.1 29) (σ.2.1 30) (σ.2.1 31) (σ.2.1 32)) (p20 : J_ss (σ.1 35) (σ.1 24) (σ.1 21) (σ.1 23) (σ.1 22) (σ.1 27) (σ.1 26) (σ.1 25) (σ.1 16) (σ.2.1 49) (σ.2.1 51)) (p21 : (σ.1 15) ≤ (σ.1 16) ∧ σ.2.1 36 (σ.1 15) ≤ (σ.1 16)) (p22 : (σ.1 9) ≤ (σ.1 7)) (p23 : 0 ≤ n1) (p24 : 0 ≤ n2) (p25 : n1 + n2 ≤ 60000) (p26 : ¬ σ.1 66 = 0) (p27 : (σ.1 38) < (σ.1 5)) (p28 : (σ.1 38) = -1 → (σ.1 39) = -1 → ∀ n : Int, 0 ≤ n → n < (σ.1 3) → ¬ c_eq (σ.2.1 2) (σ.2.1 3) n (σ.2.1 0) n1 n2) : W_X7_word n1 n2 σ (fun (x : Int) (τ : S0) => (c_T τ) ∧ (0 ≤ x ∧ x ≤ 19) ∧ (J_ht (τ.1 3) (τ.2.1 2) (τ.2.1 3) (τ.2.1 5) (τ.2.1 6)) ∧ (J_mn (τ.1 3) (τ.1 5) ((τ.1 7) + 1) (τ.2.1 4)) ∧ (J_rks (τ.1 5) (τ.1 4) (τ.2.1 10) (τ.2.1 11)) ∧ (J_vs (τ.1 8) (τ.1 5) (τ.2.1 20)) ∧ (J_vs (τ.1 6) (τ.1 5) (τ.2.1 15)) ∧ (J_va (τ.1 8) 1000 (τ.2.1 18) (τ.2.1 20)) ∧ (J_mk (τ.1 11) (τ.1 8) (τ.1 9) (τ.1 10) (τ.2.1 25)) ∧ (J_sc (τ.1 7) (τ.1 9) (τ.2.1 13) (τ.2.1 14) (τ.2.1 15) (τ.2.1 16) (τ.2.1 22) (τ.2.1 19)) ∧ (J_ff (τ.1 5) (τ.1 7) (τ.2.1 9) (τ.2.1 13) (τ.2.1 14) (τ.2.1 15)) ∧ (∀ s : Int, τ.2.1 26 s ≤ (τ.1 12)) ∧ (J_all (τ.1 7) (τ.1 6) (τ.1 13) (τ.1 14) (τ.1 15) (τ.2.1 13) (τ.2.1 14) (τ.2.1 15) (τ.2.1 16) (τ.2.1 10) (τ.2.1 27) (τ.2.1 28) (τ.2.1 29) (τ.2.1 30) (τ.2.1 31) (τ.2.1 32) (τ.2.1 33) (τ.2.1 34) (τ.2.1 35) (τ.2.1 36) (τ.2.1 37)) ∧ (J_bp (τ.2.1 44) (τ.2.1 45)) ∧ (J_nl (τ.1 3) (τ.2.1 2) (τ.2.1 3) (τ.2.1 4)) ∧ (x = 0 → J_rs (τ.1 35) (τ.1 7) (τ.1 6) (τ.1 36) (τ.1 37) (τ.1 5) (τ.1 8) (τ.2.1 14)) ∧ (x = 0 → J_uc (τ.1 35) (τ.1 36) (τ.2.1 10 (τ.2.1 15 (τ.2.1 14 (τ.1 7))))) ∧ (x = 0 → J_dj (τ.1 35) (τ.1 36) (τ.2.1 54)) ∧ (x = 0 → J_it (τ.1 35) (τ.1 7) (τ.1 6) (τ.1 37) (τ.2.1 14) (τ.2.1 15) (τ.2.1 16) (τ.2.1 19)) ∧ (x = 0 → J_hu (τ.1 35) (τ.1 13) (τ.1 7)) ∧ (x = 0 → J_ft (τ.1 35) (τ.1 24) (τ.1 7) (τ.1 13) (τ.1 14) (τ.2.1 13) (τ.2.1 14) (τ.2.1 15) (τ.2.1 16) (τ.2.1 27) (τ.2.1 28) (τ.2.1 29) (τ.2.1 30) (τ.2.1 31) (τ.2.1 32)) ∧ (x = 0 → J_ss (τ.1 35) (τ.1 24) (τ.1 21) (τ.1 23) (τ.1 22) (τ.1 27) (τ.1 26) (τ.1 25) (τ.1 16) (τ.2.1 49) (τ.2.1 51)) ∧ (x = 0 → (τ.1 15) ≤ (τ.1 16) ∧ τ.2.1 36 (τ.1 15) ≤ (τ.1 16)) ∧ (x = 0 → (τ.1 9) ≤ (τ.1 7)) ∧ (j_rr ((σ.1 5)) (σ.2.1 10) (τ.2.1 10)) ∧ (j_eq (σ.2.1 36 (σ.1 15)) (σ.2.1 37) (τ.2.1 37)) ∧ ((τ.1 12) ≤ (σ.1 12) + 1) ∧ (c_Y σ τ) ∧ (j_nm σ τ) ∧ (c_ag σ τ)) := by
  have A2 : ∀ j, 0 ≤ σ.2.1 2 j ∧ σ.2.1 2 j ≤ 65535 := fun j => hT.2 2 j
  have A3 : ∀ j, 0 ≤ σ.2.1 3 j ∧ σ.2.1 3 j ≤ 30000 := fun j => hT.2 3 j
  have A4 : ∀ j, (-1000) ≤ σ.2.1 4 j ∧ σ.2.1 4 j ≤ 1499 := fun j => hT.2 4 j
  have A5 : ∀ j, 0 ≤ σ.2.1 5 j ∧ σ.2.1 5 j ≤ 2500 := fun j => hT.2 5 j
  have A6 : ∀ j, 0 ≤ σ.2.1 6 j ∧ σ.2.1 6 j ≤ 2500 := fun j => hT.2 6 j
  have A9 : ∀ j, (-1) ≤ σ.2.1 9 j ∧ σ.2.1 9 j ≤ 1499 := fun j => hT.2 9 j
  have A10 : ∀ j, (-1) ≤ σ.2.1 10 j ∧ σ.2.1 10 j ≤ 99 := fun j => hT.2 10 j
  have A11 : ∀ j, 0 ≤ σ.2.1 11 j ∧ σ.2.1 11 j ≤ 999 := fun j => hT.2 11 j
  have A13 : ∀ j, 0 ≤ σ.2.1 13 j ∧ σ.2.1 13 j ≤ 4 := fun j => hT.2 13 j
  have A14 : ∀ j, 0 ≤ σ.2.1 14 j ∧ σ.2.1 14 j ≤ 30000 := fun j => hT.2 14 j
  have A15 : ∀ j, 0 ≤ σ.2.1 15 j ∧ σ.2.1 15 j ≤ 999 := fun j => hT.2 15 j
  have A16 : ∀ j, (-1) ≤ σ.2.1 16 j ∧ σ.2.1 16 j ≤ 1499 := fun j => hT.2 16 j
  have A18 : ∀ j, 0 ≤ σ.2.1 18 j ∧ σ.2.1 18 j ≤ 1 := fun j => hT.2 18 j
  have A19 : ∀ j, (-1) ≤ σ.2.1 19 j ∧ σ.2.1 19 j ≤ 1499 := fun j => hT.2 19 j
  have A20 : ∀ j, 0 ≤ σ.2.1 20 j ∧ σ.2.1 20 j ≤ 999 := fun j => hT.2 20 j
  have A22 : ∀ j, 0 ≤ σ.2.1 22 j ∧ σ.2.1 22 j ≤ 1499 := fun j => hT.2 22 j
  have A26 : ∀ j, (-2147483648) ≤ σ.2.1 26 j ∧ σ.2.1 26 j ≤ 2147483647 := fun j => hT.2 26 j
  have A27 : ∀ j, 0 ≤ σ.2.1 27 j ∧ σ.2.1 27 j ≤ 90000 := fun j => hT.2 27 j
  have A28 : ∀ j, 0 ≤ σ.2.1 28 j ∧ σ.2.1 28 j ≤ 60 := fun j => hT.2 28 j
  have A29 : ∀ j, 0 ≤ σ.2.1 29 j ∧ σ.2.1 29 j ≤ 1499 := fun j => hT.2 29 j
  have A30 : ∀ j, 0 ≤ σ.2.1 30 j ∧ σ.2.1 30 j ≤ 20000 := fun j => hT.2 30 j
  have A31 : ∀ j, 0 ≤ σ.2.1 31 j ∧ σ.2.1 31 j ≤ 20000 := fun j => hT.2 31 j
  have A32 : ∀ j, 0 ≤ σ.2.1 32 j ∧ σ.2.1 32 j ≤ 999999 := fun j => hT.2 32 j
  have A33 : ∀ j, 0 ≤ σ.2.1 33 j ∧ σ.2.1 33 j ≤ 20000 := fun j => hT.2 33 j
  have A34 : ∀ j, 0 ≤ σ.2.1 34 j ∧ σ.2.1 34 j ≤ 20000 := fun j => hT.2 34 j
  have A35 : ∀ j, 0 ≤ σ.2.1 35 j ∧ σ.2.1 35 j ≤ 1499 := fun j => hT.2 35 j
  have A36 : ∀ j, 0 ≤ σ.2.1 36 j ∧ σ.2.1 36 j ≤ 20000 := fun j => hT.2 36 j
  have A37 : ∀ j, 0 ≤ σ.2.1 37 j ∧ σ.2.1 37 j ≤ 19999 := fun j => hT.2 37 j
  have A44 : ∀ j, 0 ≤ σ.2.1 44 j ∧ σ.2.1 44 j ≤ 42000 := fun j => hT.2 44 j
  have A45 : ∀ j, 0 ≤ σ.2.1 45 j ∧ σ.2.1 45 j ≤ 1000 := fun j => hT.2 45 j
  have A49 : ∀ j, (-300) ≤ σ.2.1 49 j ∧ σ.2.1 49 j ≤ 67035 := fun j => hT.2 49 j
  have A51 : ∀ j, 0 ≤ σ.2.1 51 j ∧ σ.2.1 51 j ≤ 1499 := fun j => hT.2 51 j
  have A54 : ∀ j, 0 ≤ σ.2.1 54 j ∧ σ.2.1 54 j ≤ 999 := fun j => hT.2 54 j
  have v3 : 0 ≤ σ.1 3 ∧ σ.1 3 ≤ 2500 := hT.1 3
  have v4 : 0 ≤ σ.1 4 ∧ σ.1 4 ≤ 100 := hT.1 4
  have v5 : 0 ≤ σ.1 5 ∧ σ.1 5 ≤ 1000 := hT.1 5
  have v6 : 0 ≤ σ.1 6 ∧ σ.1 6 ≤ 30000 := hT.1 6
  have v7 : 0 ≤ σ.1 7 ∧ σ.1 7 ≤ 1500 := hT.1 7
  have v8 : 0 ≤ σ.1 8 ∧ σ.1 8 ≤ 1000 := hT.1 8
  have v9 : 0 ≤ σ.1 9 ∧ σ.1 9 ≤ 1500 := hT.1 9
  have v10 : 0 ≤ σ.1 10 ∧ σ.1 10 ≤ 1000 := hT.1 10
  have v11 : 0 ≤ σ.1 11 ∧ σ.1 11 ≤ 50 := hT.1 11
  have v12 : (-2147483648) ≤ σ.1 12 ∧ σ.1 12 ≤ 2147483647 := hT.1 12
  have v13 : 0 ≤ σ.1 13 ∧ σ.1 13 ≤ 90000 := hT.1 13
  have v14 : 0 ≤ σ.1 14 ∧ σ.1 14 ≤ 20000 := hT.1 14
  have v15 : 0 ≤ σ.1 15 ∧ σ.1 15 ≤ 20000 := hT.1 15
  have v16 : 0 ≤ σ.1 16 ∧ σ.1 16 ≤ 20000 := hT.1 16
  have v21 : 0 ≤ σ.1 21 ∧ σ.1 21 ≤ 20000 := hT.1 21
  have v22 : 0 ≤ σ.1 22 ∧ σ.1 22 ≤ 300 := hT.1 22
  have v23 : 0 ≤ σ.1 23 ∧ σ.1 23 ≤ 300 := hT.1 23
  have v24 : 0 ≤ σ.1 24 ∧ σ.1 24 ≤ 1499 := hT.1 24
  have v25 : 0 ≤ σ.1 25 ∧ σ.1 25 ≤ 3 := hT.1 25
  have v26 : 0 ≤ σ.1 26 ∧ σ.1 26 ≤ 5000010 := hT.1 26
  have v27 : 0 ≤ σ.1 27 ∧ σ.1 27 ≤ 1 := hT.1 27
  have v35 : 0 ≤ σ.1 35 ∧ σ.1 35 ≤ 7 := hT.1 35
  have v36 : 0 ≤ σ.1 36 ∧ σ.1 36 ≤ 1001 := hT.1 36
  have v37 : 0 ≤ σ.1 37 ∧ σ.1 37 ≤ 4 := hT.1 37
  have v38 : (-1) ≤ σ.1 38 ∧ σ.1 38 ≤ 999 := hT.1 38
  have v39 : (-1) ≤ σ.1 39 ∧ σ.1 39 ≤ 1499 := hT.1 39
  have v66 : 0 ≤ σ.1 66 ∧ σ.1 66 ≤ 1 := hT.1 66
  have a14_7 : 0 ≤ σ.2.1 14 (σ.1 7) ∧ σ.2.1 14 (σ.1 7) ≤ 30000 := hT.2 14 _
  have a36_15 : 0 ≤ σ.2.1 36 (σ.1 15) ∧ σ.2.1 36 (σ.1 15) ≤ 20000 := hT.2 36 _
  have W7 : σ.1 7 = σ.1 7 := rfl
  have W9 : σ.1 9 = σ.1 9 := rfl
  have W11 : σ.1 11 = σ.1 11 := rfl
  have W12 : σ.1 12 = σ.1 12 := rfl
  have W13 : σ.1 13 = σ.1 13 := rfl
  have W14 : σ.1 14 = σ.1 14 := rfl
  have W15 : σ.1 15 = σ.1 15 := rfl
  have W16 : σ.1 16 = σ.1 16 := rfl
  have W21 : σ.1 21 = σ.1 21 := rfl
  have W22 : σ.1 22 = σ.1 22 := rfl
  have W23 : σ.1 23 = σ.1 23 := rfl
  have W24 : σ.1 24 = σ.1 24 := rfl
  have W25 : σ.1 25 = σ.1 25 := rfl
  have W26 : σ.1 26 = σ.1 26 := rfl
  have W27 : σ.1 27 = σ.1 27 := rfl
  have W37 : σ.1 37 = σ.1 37 := rfl
  have W38 : σ.1 38 = σ.1 38 := rfl
  have W39 : σ.1 39 = σ.1 39 := rfl
  have W66 : σ.1 66 = σ.1 66 := rfl
  have G13 : σ.2.1 13 = σ.2.1 13 := rfl
  have G19 : σ.2.1 19 = σ.2.1 19 := rfl
  have G22 : σ.2.1 22 = σ.2.1 22 := rfl
  have G25 : σ.2.1 25 = σ.2.1 25 := rfl
  have G26 : σ.2.1 26 = σ.2.1 26 := rfl
  have G27 : σ.2.1 27 = σ.2.1 27 := rfl
  have G28 : σ.2.1 28 = σ.2.1 28 := rfl
  have G29 : σ.2.1 29 = σ.2.1 29 := rfl
  have G30 : σ.2.1 30 = σ.2.1 30 := rfl
  have G31 : σ.2.1 31 = σ.2.1 31 := rfl
  have G32 : σ.2.1 32 = σ.2.1 32 := rfl
  have G33 : σ.2.1 33 = σ.2.1 33 := rfl
  have G34 : σ.2.1 34 = σ.2.1 34 := rfl
  have G35 : σ.2.1 35 = σ.2.1 35 := rfl
  have G36 : σ.2.1 36 = σ.2.1 36 := rfl
  have G37 : σ.2.1 37 = σ.2.1 37 := rfl
  have G44 : σ.2.1 44 = σ.2.1 44 := rfl
  have G45 : σ.2.1 45 = σ.2.1 45 := rfl
  have G49 : σ.2.1 49 = σ.2.1 49 := rfl
  have G51 : σ.2.1 51 = σ.2.1 51 := rfl
  have ag : c_ag σ σ := ag_0 σ
  have hT0 := hT
  have t015 : ∀ p : Int, 0 ≤ σ.2.1 15 p ∧ σ.2.1 15 p < 1000 := fun p => ⟨(A15 p).1, by have := (A15 p).2; omega⟩
  have CH := j_eq0 (σ.2.1 36 (σ.1 15)) (σ.2.1 37)
  have jt := c_Jt p11
  have JFx := c_JF jt p8 (fun m => (hT.2 22 m).1) (by omega)
  have FPx := c_FP jt p9 (by omega)
  have uc := p15
  have dj := p16
  have ipx := p17
  have hux := p18
  have frx := p19
  have spx := p20
  have sux := p21
  have hcx := p22
  have rsx := p14
  have HT : J_ht (σ.1 3) (σ.2.1 2) (σ.2.1 3) (σ.2.1 5) (σ.2.1 6) := p1
  have NL : J_nl (σ.1 3) (σ.2.1 2) (σ.2.1 3) (σ.2.1 4) := p13
  have MN : J_mn (σ.1 3) (σ.1 5) ((σ.1 7) + 1) (σ.2.1 4) := p2
  have VA : J_va (σ.1 8) 1000 (σ.2.1 18) (σ.2.1 20) := p6
  have SC : J_sc (σ.1 7) (σ.1 9) (σ.2.1 13) (σ.2.1 14) (σ.2.1 15) (σ.2.1 16) (σ.2.1 22) (σ.2.1 19) := p8
  have MK : J_mk (σ.1 11) (σ.1 8) (σ.1 9) (σ.1 10) (σ.2.1 25) := p7
  have FF : J_ff (σ.1 5) (σ.1 7) (σ.2.1 9) (σ.2.1 13) (σ.2.1 14) (σ.2.1 15) := p9
  have MT : ∀ s : Int, σ.2.1 26 s ≤ (σ.1 12) := p10
  have VS : J_vs (σ.1 8) (σ.1 5) (σ.2.1 20) := p4
  have TX : J_vs (σ.1 6) (σ.1 5) (σ.2.1 15) := p5
  have RKS : J_rks (σ.1 5) (σ.1 4) (σ.2.1 10) (σ.2.1 11) := p3
  have CJ : J_all (σ.1 7) (σ.1 6) (σ.1 13) (σ.1 14) (σ.1 15) (σ.2.1 13) (σ.2.1 14) (σ.2.1 15) (σ.2.1 16) (σ.2.1 10) (σ.2.1 27) (σ.2.1 28) (σ.2.1 29) (σ.2.1 30) (σ.2.1 31) (σ.2.1 32) (σ.2.1 33) (σ.2.1 34) (σ.2.1 35) (σ.2.1 36) (σ.2.1 37) := p11
  have BP : J_bp (σ.2.1 44) (σ.2.1 45) := p12
  have RS : J_rs (σ.1 35) (σ.1 7) (σ.1 6) (σ.1 36) (σ.1 37) (σ.1 5) (σ.1 8) (σ.2.1 14) := p14
  have UC : J_uc (σ.1 35) (σ.1 36) (σ.2.1 10 (σ.2.1 15 (σ.2.1 14 (σ.1 7)))) := p15
  have DJs : J_dj (σ.1 35) (σ.1 36) (σ.2.1 54) := p16
  have IPs : J_it (σ.1 35) (σ.1 7) (σ.1 6) (σ.1 37) (σ.2.1 14) (σ.2.1 15) (σ.2.1 16) (σ.2.1 19) := p17
  have HUs : J_hu (σ.1 35) (σ.1 13) (σ.1 7) := p18
  have FRs : J_ft (σ.1 35) (σ.1 24) (σ.1 7) (σ.1 13) (σ.1 14) (σ.2.1 13) (σ.2.1 14) (σ.2.1 15) (σ.2.1 16) (σ.2.1 27) (σ.2.1 28) (σ.2.1 29) (σ.2.1 30) (σ.2.1 31) (σ.2.1 32) := p19
  have SPs : J_ss (σ.1 35) (σ.1 24) (σ.1 21) (σ.1 23) (σ.1 22) (σ.1 27) (σ.1 26) (σ.1 25) (σ.1 16) (σ.2.1 49) (σ.2.1 51) := p20
  have BP_0 := BP
  have CH_0 := CH
  have CJ_0 := CJ
  have DJs_0 := DJs
  have FF_0 := FF
  have FRs_0 := FRs
  have HT_0 := HT
  have HUs_0 := HUs
  have IPs_0 := IPs
  have MK_0 := MK
  have MN_0 := MN
  have MT_0 := MT
  have NL_0 := NL
  have RKS_0 := RKS
  have RS_0 := RS
  have SC_0 := SC
  have SPs_0 := SPs
  have TX_0 := TX
  have UC_0 := UC
  have VA_0 := VA
  have VS_0 := VS
  unfold W_X7_word
  refine ⟨fun c1 => ?_, fun c1 => ?_, fun c1 => ?_, fun c1 => ?_, fun c1 => ?_, fun c1 => ?_, fun c1 => ?_⟩
  ·
    exact ⟨hT, (show 0 ≤ 4 ∧ 4 ≤ 19 from by (first | assumption | omega | (simp only [st_s] <;> omega) | fail)), (show J_ht (σ.1 3) (σ.2.1 2) (σ.2.1 3) (σ.2.1 5) (σ.2.1 6) from HT), (show J_mn (σ.1 3) (σ.1 5) ((σ.1 7) + 1) (σ.2.1 4) from MN), (show J_rks (σ.1 5) (σ.1 4) (σ.2.1 10) (σ.2.1 11) from RKS), (show J_vs (σ.1 8) (σ.1 5) (σ.2.1 20) from VS), (show J_vs (σ.1 6) (σ.1 5) (σ.2.1 15) from TX), (show J_va (σ.1 8) 1000 (σ.2.1 18) (σ.2.1 20) from VA), (show J_mk (σ.1 11) (σ.1 8) (σ.1 9) (σ.1 10) (σ.2.1 25) from MK), (show J_sc (σ.1 7) (σ.1 9) (σ.2.1 13) (σ.2.1 14) (σ.2.1 15) (σ.2.1 16) (σ.2.1 22) (σ.2.1 19) from SC), (show J_ff (σ.1 5) (σ.1 7) (σ.2.1 9) (σ.2.1 13) (σ.2.1 14) (σ.2.1 15) from FF), (show ∀ s : Int, σ.2.1 26 s ≤ (σ.1 12) from MT), (show J_all (σ.1 7) (σ.1 6) (σ.1 13) (σ.1 14) (σ.1 15) (σ.2.1 13) (σ.2.1 14) (σ.2.1 15) (σ.2.1 16) (σ.2.1 10) (σ.2.1 27) (σ.2.1 28) (σ.2.1 29) (σ.2.1 30) (σ.2.1 31) (σ.2.1 32) (σ.2.1 33) (σ.2.1 34) (σ.2.1 35) (σ.2.1 36) (σ.2.1 37) from CJ), (show J_bp (σ.2.1 44) (σ.2.1 45) from BP), (show J_nl (σ.1 3) (σ.2.1 2) (σ.2.1 3) (σ.2.1 4) from NL), (show 4 = 0 → J_rs (σ.1 35) (σ.1 7) (σ.1 6) (σ.1 36) (σ.1 37) (σ.1 5) (σ.1 8) (σ.2.1 14) from by (first | exact fun z => absurd z (by decide) | (intro z; have w := q2_2 z; have rs := p14; unfold J_rs at rs ⊢; rw [show (s_v τ4 35 1).1 35 = 1 from rfl] at *; omega) | (intro z; have w := q2_2 z; have rs := J_rs_0 p14 (by omega); unfold J_rs; rw [g14_τ4, w7_τ4]; omega) | (intro z; have w := q5_9 z; have rs := J_rs_0 p14 (by omega); unfold J_rs; rw [g14_τ7, w7_τ7]; omega) | (intro z; have w := q8_11 z; have rs := J_rs_0 p14 (by omega); unfold J_rs; rw [g14_τ10, w7_τ10]; omega) | (intro z; have rs := J_rs_0 p14 (by omega); unfold J_rs; rw [g14_τ13, w7_τ13]; omega) | (intro z; have w1 := q14_5 z; have w2 := q14_7 z; have w3 := q14_8 z; have w4 := J_rs_4 p14 (by omega); rw [show τ16.1 7 = σ.1 7 from by omega] at w1; unfold J_rs; rw [show τ16.1 7 = σ.1 7 from by omega]; omega) | fail)), (show 4 = 0 → J_uc (σ.1 35) (σ.1 36) (σ.2.1 10 (σ.2.1 15 (σ.2.1 14 (σ.1 7)))) from by (first | exact fun z => absurd z (by decide) | (intro z y; exfalso; omega) | (intro z y y2; exact q14_6 z) | fail)), (show 4 = 0 → J_dj (σ.1 35) (σ.1 36) (σ.2.1 54) from by (first | exact fun z => absurd z (by decide) | (intro z y; exfalso; omega) | (intro z y; exact q11_2 z) | fail)), (show 4 = 0 → J_it (σ.1 35) (σ.1 7) (σ.1 6) (σ.1 37) (σ.2.1 14) (σ.2.1 15) (σ.2.1 16) (σ.2.1 19) from by (first | exact fun z => absurd z (by decide) | (intro z y; exfalso; omega) | (intro z y; exact q14_9 z) | fail)), (show 4 = 0 → J_hu (σ.1 35) (σ.1 13) (σ.1 7) from by (first | exact fun z => absurd z (by decide) | exact fun _ => HUs | (intro z; have hu := hux; unfold J_hu at hu ⊢; omega) | fail)), (show 4 = 0 → J_ft (σ.1 35) (σ.1 24) (σ.1 7) (σ.1 13) (σ.1 14) (σ.2.1 13) (σ.2.1 14) (σ.2.1 15) (σ.2.1 16) (σ.2.1 27) (σ.2.1 28) (σ.2.1 29) (σ.2.1 30) (σ.2.1 31) (σ.2.1 32) from by (first | exact fun z => absurd z (by decide) | (intro z y; exfalso; omega) | exact fun _ => FRs | exact fun _ => frx | (intro z y; exact frx (by omega)) | (intro z y; have w := frx (by omega); rw [W7, W13, W14, W24, G13, G14, G15, G16, G27, G28, G29, G30, G31, G32]; exact w) | fail)), (show 4 = 0 → J_ss (σ.1 35) (σ.1 24) (σ.1 21) (σ.1 23) (σ.1 22) (σ.1 27) (σ.1 26) (σ.1 25) (σ.1 16) (σ.2.1 49) (σ.2.1 51) from by (first | exact fun z => absurd z (by decide) | (intro z y; exfalso; omega) | exact fun _ => SPs | exact fun _ => spx | (intro z y; exact spx (by omega)) | fail)), (show 4 = 0 → (σ.1 15) ≤ (σ.1 16) ∧ σ.2.1 36 (σ.1 15) ≤ (σ.1 16) from by (intro z; first | exact sux | omega)), (show 4 = 0 → (σ.1 9) ≤ (σ.1 7) from by (intro z; omega)), (show j_rr ((σ.1 5)) (σ.2.1 10) (σ.2.1 10) from by (first | exact j_rr0 _ _ | (rw [g10_τ4]; exact j_rr0 _ _) | (rw [g10_τ13]; exact j_rr0 _ _) | (rw [G10]; exact j_rr0 _ _) | exact q5_8 | exact q8_10 | exact q14_4 | fail)), (show j_eq (σ.2.1 36 (σ.1 15)) (σ.2.1 37) (σ.2.1 37) from CH), (show (σ.1 12) ≤ (σ.1 12) + 1 from by (first | assumption | omega | (simp only [st_s] <;> omega) | fail)), (show c_Y σ σ from by (first | exact c_Y0 _ | exact q8_12 | exact q14_10 | exact c_Y_g W4 G11 G20 G22 G25 | exact c_Y_g (by omega) (by rw [g11_τ4]) (by rw [g20_τ4]) (by rw [g22_τ4]) (by rw [g25_τ4]) | exact c_Y_g (by omega) (by rw [g11_τ7]) (by rw [g20_τ7]) (by rw [g22_τ7]) (by rw [g25_τ7]) | exact c_Y_g (by omega) (by rw [g11_τ13]) (by rw [g20_τ13]) (by rw [g22_τ13]) (by rw [g25_τ13]) | fail)), (show j_nm σ σ from by (first | exact j_nm0 _ | exact (show j_nm σ τ4 from q2_6) | exact (show j_nm σ τ7 from q5_11) | exact (show j_nm σ τ10 from q8_14) | exact (show j_nm σ τ13 from j_nm_h hf_τ13 rfl) | exact (show j_nm σ τ16 from j_nm_h hf_τ16 rfl) | fail)), ag⟩
  ·
    refine ⟨_, K2_X7_label hT (show 0 ≤ n1 from by (first | assumption | omega | (simp only [st_s] <;> omega) | fail)) (show 0 ≤ n2 from by (first | assumption | omega | (simp only [st_s] <;> omega) | fail)) (show n1 + n2 ≤ 60000 from by (first | assumption | omega | (simp only [st_s] <;> omega) | fail)) (show ¬ σ.1 66 = 0 from by (first | assumption | omega | (simp only [st_s] <;> omega) | fail)) (show J_ht (σ.1 3) (σ.2.1 2) (σ.2.1 3) (σ.2.1 5) (σ.2.1 6) from HT) (show J_mn (σ.1 3) (σ.1 5) ((σ.1 7) + 1) (σ.2.1 4) from MN) (show J_nl (σ.1 3) (σ.2.1 2) (σ.2.1 3) (σ.2.1 4) from NL) (show (σ.1 38) = -1 → (σ.1 39) = -1 → ∀ n : Int, 0 ≤ n → n < (σ.1 3) → ¬ c_eq (σ.2.1 2) (σ.2.1 3) n (σ.2.1 0) n1 n2 from by (first | assumption | omega | (simp only [st_s] <;> omega) | fail)), ?_⟩
    intro x3 τ4 r_x3 hn_τ4 hf_τ4 hq
    obtain ⟨hT, q2_1, q2_2, q2_3, q2_4, q2_5, q2_6, q2_7⟩ := hq
    replace q2_1 : 0 ≤ x3 ∧ x3 ≤ 19 := q2_1
    replace q2_2 : x3 = 0 → (τ4.1 35) = 1 ∧ (σ.1 7) < 1500 := q2_2
    replace q2_3 : J_ht (τ4.1 3) (τ4.2.1 2) (τ4.2.1 3) (τ4.2.1 5) (τ4.2.1 6) := q2_3
    replace q2_4 : J_mn (τ4.1 3) (τ4.1 5) ((τ4.1 7) + 1) (τ4.2.1 4) := q2_4
    replace q2_5 : J_nl (τ4.1 3) (τ4.2.1 2) (τ4.2.1 3) (τ4.2.1 4) := q2_5
    replace q2_6 : j_nm σ τ4 := q2_6
    replace q2_7 : c_ag σ τ4 := q2_7
    replace ag : c_ag σ τ4 := ag_t ag q2_7 rfl
    have w4_τ4 : τ4.1 4 = σ.1 4 := hf_τ4.1 4 (by decide)
    have w5_τ4 : τ4.1 5 = σ.1 5 := hf_τ4.1 5 (by decide)
    have w6_τ4 : τ4.1 6 = σ.1 6 := hf_τ4.1 6 (by decide)
    have w7_τ4 : τ4.1 7 = σ.1 7 := hf_τ4.1 7 (by decide)
    have w8_τ4 : τ4.1 8 = σ.1 8 := hf_τ4.1 8 (by decide)
    have w9_τ4 : τ4.1 9 = σ.1 9 := hf_τ4.1 9 (by decide)
    have w10_τ4 : τ4.1 10 = σ.1 10 := hf_τ4.1 10 (by decide)
    have w11_τ4 : τ4.1 11 = σ.1 11 := hf_τ4.1 11 (by decide)
    have w12_τ4 : τ4.1 12 = σ.1 12 := hf_τ4.1 12 (by decide)
    have w13_τ4 : τ4.1 13 = σ.1 13 := hf_τ4.1 13 (by decide)
    have w14_τ4 : τ4.1 14 = σ.1 14 := hf_τ4.1 14 (by decide)
    have w15_τ4 : τ4.1 15 = σ.1 15 := hf_τ4.1 15 (by decide)
    have w16_τ4 : τ4.1 16 = σ.1 16 := hf_τ4.1 16 (by decide)
    have w21_τ4 : τ4.1 21 = σ.1 21 := hf_τ4.1 21 (by decide)
    have w22_τ4 : τ4.1 22 = σ.1 22 := hf_τ4.1 22 (by decide)
    have w23_τ4 : τ4.1 23 = σ.1 23 := hf_τ4.1 23 (by decide)
    have w24_τ4 : τ4.1 24 = σ.1 24 := hf_τ4.1 24 (by decide)
    have w25_τ4 : τ4.1 25 = σ.1 25 := hf_τ4.1 25 (by decide)
    have w26_τ4 : τ4.1 26 = σ.1 26 := hf_τ4.1 26 (by decide)
    have w27_τ4 : τ4.1 27 = σ.1 27 := hf_τ4.1 27 (by decide)
    have w36_τ4 : τ4.1 36 = σ.1 36 := hf_τ4.1 36 (by decide)
    have w37_τ4 : τ4.1 37 = σ.1 37 := hf_τ4.1 37 (by decide)
    have w38_τ4 : τ4.1 38 = σ.1 38 := hf_τ4.1 38 (by decide)
    have w39_τ4 : τ4.1 39 = σ.1 39 := hf_τ4.1 39 (by decide)
    have w66_τ4 : τ4.1 66 = σ.1 66 := hf_τ4.1 66 (by decide)
    have g9_τ4 : τ4.2.1 9 = σ.2.1 9 := hf_τ4.2.1 9 (by decide)
    have g10_τ4 : τ4.2.1 10 = σ.2.1 10 := hf_τ4.2.1 10 (by decide)
    have g11_τ4 : τ4.2.1 11 = σ.2.1 11 := hf_τ4.2.1 11 (by decide)
    have g13_τ4 : τ4.2.1 13 = σ.2.1 13 := hf_τ4.2.1 13 (by decide)
    have g14_τ4 : τ4.2.1 14 = σ.2.1 14 := hf_τ4.2.1 14 (by decide)
    have g15_τ4 : τ4.2.1 15 = σ.2.1 15 := hf_τ4.2.1 15 (by decide)
    have g16_τ4 : τ4.2.1 16 = σ.2.1 16 := hf_τ4.2.1 16 (by decide)
    have g18_τ4 : τ4.2.1 18 = σ.2.1 18 := hf_τ4.2.1 18 (by decide)
    have g19_τ4 : τ4.2.1 19 = σ.2.1 19 := hf_τ4.2.1 19 (by decide)
    have g20_τ4 : τ4.2.1 20 = σ.2.1 20 := hf_τ4.2.1 20 (by decide)
    have g22_τ4 : τ4.2.1 22 = σ.2.1 22 := hf_τ4.2.1 22 (by decide)
    have g25_τ4 : τ4.2.1 25 = σ.2.1 25 := hf_τ4.2.1 25 (by decide)
    have g26_τ4 : τ4.2.1 26 = σ.2.1 26 := hf_τ4.2.1 26 (by decide)
    have g27_τ4 : τ4.2.1 27 = σ.2.1 27 := hf_τ4.2.1 27 (by decide)
    have g28_τ4 : τ4.2.1 28 = σ.2.1 28 := hf_τ4.2.1 28 (by decide)
    have g29_τ4 : τ4.2.1 29 = σ.2.1 29 := hf_τ4.2.1 29 (by decide)
    have g30_τ4 : τ4.2.1 30 = σ.2.1 30 := hf_τ4.2.1 30 (by decide)
    have g31_τ4 : τ4.2.1 31 = σ.2.1 31 := hf_τ4.2.1 31 (by decide)
    have g32_τ4 : τ4.2.1 32 = σ.2.1 32 := hf_τ4.2.1 32 (by decide)
    have g33_τ4 : τ4.2.1 33 = σ.2.1 33 := hf_τ4.2.1 33 (by decide)
    have g34_τ4 : τ4.2.1 34 = σ.2.1 34 := hf_τ4.2.1 34 (by decide)
    have g35_τ4 : τ4.2.1 35 = σ.2.1 35 := hf_τ4.2.1 35 (by decide)
    have g36_τ4 : τ4.2.1 36 = σ.2.1 36 := hf_τ4.2.1 36 (by decide)
    have g37_τ4 : τ4.2.1 37 = σ.2.1 37 := hf_τ4.2.1 37 (by decide)
    have g44_τ4 : τ4.2.1 44 = σ.2.1 44 := hf_τ4.2.1 44 (by decide)
    have g45_τ4 : τ4.2.1 45 = σ.2.1 45 := hf_τ4.2.1 45 (by decide)
    have g49_τ4 : τ4.2.1 49 = σ.2.1 49 := hf_τ4.2.1 49 (by decide)
    have g51_τ4 : τ4.2.1 51 = σ.2.1 51 := hf_τ4.2.1 51 (by decide)
    have g54_τ4 : τ4.2.1 54 = σ.2.1 54 := hf_τ4.2.1 54 (by decide)
    have W7 : τ4.1 7 = σ.1 7 := by first | exact w7_τ4.trans W7 | omega
    have W9 : τ4.1 9 = σ.1 9 := by first | exact w9_τ4.trans W9 | omega
    have W11 : τ4.1 11 = σ.1 11 := by first | exact w11_τ4.trans W11 | omega
    have W12 : τ4.1 12 = σ.1 12 := by first | exact w12_τ4.trans W12 | omega
    have W13 : τ4.1 13 = σ.1 13 := by first | exact w13_τ4.trans W13 | omega
    have W14 : τ4.1 14 = σ.1 14 := by first | exact w14_τ4.trans W14 | omega
    have W15 : τ4.1 15 = σ.1 15 := by first | exact w15_τ4.trans W15 | omega
    have W16 : τ4.1 16 = σ.1 16 := by first | exact w16_τ4.trans W16 | omega
    have W21 : τ4.1 21 = σ.1 21 := by first | exact w21_τ4.trans W21 | omega
    have W22 : τ4.1 22 = σ.1 22 := by first | exact w22_τ4.trans W22 | omega
    have W23 : τ4.1 23 = σ.1 23 := by first | exact w23_τ4.trans W23 | omega
    have W24 : τ4.1 24 = σ.1 24 := by first | exact w24_τ4.trans W24 | omega
    have W25 : τ4.1 25 = σ.1 25 := by first | exact w25_τ4.trans W25 | omega
    have W26 : τ4.1 26 = σ.1 26 := by first | exact w26_τ4.trans W26 | omega
    have W27 : τ4.1 27 = σ.1 27 := by first | exact w27_τ4.trans W27 | omega
    have W37 : τ4.1 37 = σ.1 37 := by first | exact w37_τ4.trans W37 | omega
    have W38 : τ4.1 38 = σ.1 38 := by first | exact w38_τ4.trans W38 | omega
    have W39 : τ4.1 39 = σ.1 39 := by first | exact w39_τ4.trans W39 | omega
    have W66 : τ4.1 66 = σ.1 66 := by first | exact w66_τ4.trans W66 | omega
    have G13 : τ4.2.1 13 = σ.2.1 13 := (g13_τ4).trans G13
    have G19 : τ4.2.1 19 = σ.2.1 19 := (g19_τ4).trans G19
    have G22 : τ4.2.1 22 = σ.2.1 22 := (g22_τ4).trans G22
    have G25 : τ4.2.1 25 = σ.2.1 25 := (g25_τ4).trans G25
    have G26 : τ4.2.1 26 = σ.2.1 26 := (g26_τ4).trans G26
    have G27 : τ4.2.1 27 = σ.2.1 27 := (g27_τ4).trans G27
    have G28 : τ4.2.1 28 = σ.2.1 28 := (g28_τ4).trans G28
    have G29 : τ4.2.1 29 = σ.2.1 29 := (g29_τ4).trans G29
    have G30 : τ4.2.1 30 = σ.2.1 30 := (g30_τ4).trans G30
    have G31 : τ4.2.1 31 = σ.2.1 31 := (g31_τ4).trans G31
    have G32 : τ4.2.1 32 = σ.2.1 32 := (g32_τ4).trans G32
    have G33 : τ4.2.1 33 = σ.2.1 33 := (g33_τ4).trans G33
    have G34 : τ4.2.1 34 = σ.2.1 34 := (g34_τ4).trans G34
    have G35 : τ4.2.1 35 = σ.2.1 35 := (g35_τ4).trans G35
    have G36 : τ4.2.1 36 = σ.2.1 36 := (g36_τ4).trans G36
    have G37 : τ4.2.1 37 = σ.2.1 37 := (g37_τ4).trans G37
    have G44 : τ4.2.1 44 = σ.2.1 44 := (g44_τ4).trans G44
    have G45 : τ4.2.1 45 = σ.2.1 45 := (g45_τ4).trans G45
    have G49 : τ4.2.1 49 = σ.2.1 49 := (g49_τ4).trans G49
    have G51 : τ4.2.1 51 = σ.2.1 51 := (g51_τ4).trans G51
    have y14_7_τ4 : τ4.2.1 14 (τ4.1 7) = (σ.2.1 14) (σ.1 7) := by rw [g14_τ4, w7_τ4]
    have y36_15_τ4 : τ4.2.1 36 (τ4.1 15) = (σ.2.1 36) (σ.1 15) := by rw [g36_τ4, w15_τ4]
    have HT : J_ht (τ4.1 3) (τ4.2.1 2) (τ4.2.1 3) (τ4.2.1 5) (τ4.2.1 6) := q2_3
    have NL : J_nl (τ4.1 3) (τ4.2.1 2) (τ4.2.1 3) (τ4.2.1 4) := q2_5
    have MN : J_mn (τ4.1 3) (τ4.1 5) ((τ4.1 7) + 1) (τ4.2.1 4) := q2_4
    have VA : J_va (τ4.1 8) 1000 (τ4.2.1 18) (τ4.2.1 20) := by rw [show (J_va (τ4.1 8) 1000 (τ4.2.1 18) (τ4.2.1 20)) = (J_va (σ.1 8) 1000 (σ.2.1 18) (σ.2.1 20)) from by rw [w8_τ4, g18_τ4, g20_τ4]]; exact VA
    have SC : J_sc (τ4.1 7) (τ4.1 9) (τ4.2.1 13) (τ4.2.1 14) (τ4.2.1 15) (τ4.2.1 16) (τ4.2.1 22) (τ4.2.1 19) := by rw [show (J_sc (τ4.1 7) (τ4.1 9) (τ4.2.1 13) (τ4.2.1 14) (τ4.2.1 15) (τ4.2.1 16) (τ4.2.1 22) (τ4.2.1 19)) = (J_sc (σ.1 7) (σ.1 9) (σ.2.1 13) (σ.2.1 14) (σ.2.1 15) (σ.2.1 16) (σ.2.1 22) (σ.2.1 19)) from by rw [w7_τ4, w9_τ4, g13_τ4, g14_τ4, g15_τ4, g16_τ4, g19_τ4, g22_τ4]]; exact SC
    have MK : J_mk (τ4.1 11) (τ4.1 8) (τ4.1 9) (τ4.1 10) (τ4.2.1 25) := by rw [show (J_mk (τ4.1 11) (τ4.1 8) (τ4.1 9) (τ4.1 10) (τ4.2.1 25)) = (J_mk (σ.1 11) (σ.1 8) (σ.1 9) (σ.1 10) (σ.2.1 25)) from by rw [w8_τ4, w9_τ4, w10_τ4, w11_τ4, g25_τ4]]; exact MK
    have FF : J_ff (τ4.1 5) (τ4.1 7) (τ4.2.1 9) (τ4.2.1 13) (τ4.2.1 14) (τ4.2.1 15) := by rw [show (J_ff (τ4.1 5) (τ4.1 7) (τ4.2.1 9) (τ4.2.1 13) (τ4.2.1 14) (τ4.2.1 15)) = (J_ff (σ.1 5) (σ.1 7) (σ.2.1 9) (σ.2.1 13) (σ.2.1 14) (σ.2.1 15)) from by rw [w5_τ4, w7_τ4, g9_τ4, g13_τ4, g14_τ4, g15_τ4]]; exact FF
    have MT : ∀ s : Int, τ4.2.1 26 s ≤ (τ4.1 12) := by rw [show (∀ s : Int, τ4.2.1 26 s ≤ (τ4.1 12)) = (∀ s : Int, σ.2.1 26 s ≤ (σ.1 12)) from by rw [w12_τ4, g26_τ4]]; exact MT
    have VS : J_vs (τ4.1 8) (τ4.1 5) (τ4.2.1 20) := by rw [show (J_vs (τ4.1 8) (τ4.1 5) (τ4.2.1 20)) = (J_vs (σ.1 8) (σ.1 5) (σ.2.1 20)) from by rw [w5_τ4, w8_τ4, g20_τ4]]; exact VS
    have TX : J_vs (τ4.1 6) (τ4.1 5) (τ4.2.1 15) := by rw [show (J_vs (τ4.1 6) (τ4.1 5) (τ4.2.1 15)) = (J_vs (σ.1 6) (σ.1 5) (σ.2.1 15)) from by rw [w5_τ4, w6_τ4, g15_τ4]]; exact TX
    have RKS : J_rks (τ4.1 5) (τ4.1 4) (τ4.2.1 10) (τ4.2.1 11) := by rw [show (J_rks (τ4.1 5) (τ4.1 4) (τ4.2.1 10) (τ4.2.1 11)) = (J_rks (σ.1 5) (σ.1 4) (σ.2.1 10) (σ.2.1 11)) from by rw [w4_τ4, w5_τ4, g10_τ4, g11_τ4]]; exact RKS
    have CJ : J_all (τ4.1 7) (τ4.1 6) (τ4.1 13) (τ4.1 14) (τ4.1 15) (τ4.2.1 13) (τ4.2.1 14) (τ4.2.1 15) (τ4.2.1 16) (τ4.2.1 10) (τ4.2.1 27) (τ4.2.1 28) (τ4.2.1 29) (τ4.2.1 30) (τ4.2.1 31) (τ4.2.1 32) (τ4.2.1 33) (τ4.2.1 34) (τ4.2.1 35) (τ4.2.1 36) (τ4.2.1 37) := by rw [show (J_all (τ4.1 7) (τ4.1 6) (τ4.1 13) (τ4.1 14) (τ4.1 15) (τ4.2.1 13) (τ4.2.1 14) (τ4.2.1 15) (τ4.2.1 16) (τ4.2.1 10) (τ4.2.1 27) (τ4.2.1 28) (τ4.2.1 29) (τ4.2.1 30) (τ4.2.1 31) (τ4.2.1 32) (τ4.2.1 33) (τ4.2.1 34) (τ4.2.1 35) (τ4.2.1 36) (τ4.2.1 37)) = (J_all (σ.1 7) (σ.1 6) (σ.1 13) (σ.1 14) (σ.1 15) (σ.2.1 13) (σ.2.1 14) (σ.2.1 15) (σ.2.1 16) (σ.2.1 10) (σ.2.1 27) (σ.2.1 28) (σ.2.1 29) (σ.2.1 30) (σ.2.1 31) (σ.2.1 32) (σ.2.1 33) (σ.2.1 34) (σ.2.1 35) (σ.2.1 36) (σ.2.1 37)) from by rw [w6_τ4, w7_τ4, w13_τ4, w14_τ4, w15_τ4, g10_τ4, g13_τ4, g14_τ4, g15_τ4, g16_τ4, g27_τ4, g28_τ4, g29_τ4, g30_τ4, g31_τ4, g32_τ4, g33_τ4, g34_τ4, g35_τ4, g36_τ4, g37_τ4]]; exact CJ
    have BP : J_bp (τ4.2.1 44) (τ4.2.1 45) := by rw [show (J_bp (τ4.2.1 44) (τ4.2.1 45)) = (J_bp (σ.2.1 44) (σ.2.1 45)) from by rw [g44_τ4, g45_τ4]]; exact BP
    have CH : j_eq (σ.2.1 36 (σ.1 15)) (σ.2.1 37) (τ4.2.1 37) := by rw [show (j_eq (σ.2.1 36 (σ.1 15)) (σ.2.1 37) (τ4.2.1 37)) = (j_eq (σ.2.1 36 (σ.1 15)) (σ.2.1 37) (σ.2.1 37)) from by rw [g37_τ4]]; exact CH
    have A2 : ∀ j, 0 ≤ τ4.2.1 2 j ∧ τ4.2.1 2 j ≤ 65535 := fun j => hT.2 2 j
    have A3 : ∀ j, 0 ≤ τ4.2.1 3 j ∧ τ4.2.1 3 j ≤ 30000 := fun j => hT.2 3 j
    have A4 : ∀ j, (-1000) ≤ τ4.2.1 4 j ∧ τ4.2.1 4 j ≤ 1499 := fun j => hT.2 4 j
    have A5 : ∀ j, 0 ≤ τ4.2.1 5 j ∧ τ4.2.1 5 j ≤ 2500 := fun j => hT.2 5 j
    have A6 : ∀ j, 0 ≤ τ4.2.1 6 j ∧ τ4.2.1 6 j ≤ 2500 := fun j => hT.2 6 j
    have A9 : ∀ j, (-1) ≤ τ4.2.1 9 j ∧ τ4.2.1 9 j ≤ 1499 := fun j => hT.2 9 j
    have A10 : ∀ j, (-1) ≤ τ4.2.1 10 j ∧ τ4.2.1 10 j ≤ 99 := fun j => hT.2 10 j
    have A11 : ∀ j, 0 ≤ τ4.2.1 11 j ∧ τ4.2.1 11 j ≤ 999 := fun j => hT.2 11 j
    have A13 : ∀ j, 0 ≤ τ4.2.1 13 j ∧ τ4.2.1 13 j ≤ 4 := fun j => hT.2 13 j
    have A14 : ∀ j, 0 ≤ τ4.2.1 14 j ∧ τ4.2.1 14 j ≤ 30000 := fun j => hT.2 14 j
    have A15 : ∀ j, 0 ≤ τ4.2.1 15 j ∧ τ4.2.1 15 j ≤ 999 := fun j => hT.2 15 j
    have A16 : ∀ j, (-1) ≤ τ4.2.1 16 j ∧ τ4.2.1 16 j ≤ 1499 := fun j => hT.2 16 j
    have A18 : ∀ j, 0 ≤ τ4.2.1 18 j ∧ τ4.2.1 18 j ≤ 1 := fun j => hT.2 18 j
    have A19 : ∀ j, (-1) ≤ τ4.2.1 19 j ∧ τ4.2.1 19 j ≤ 1499 := fun j => hT.2 19 j
    have A20 : ∀ j, 0 ≤ τ4.2.1 20 j ∧ τ4.2.1 20 j ≤ 999 := fun j => hT.2 20 j
    have A22 : ∀ j, 0 ≤ τ4.2.1 22 j ∧ τ4.2.1 22 j ≤ 1499 := fun j => hT.2 22 j
    have A26 : ∀ j, (-2147483648) ≤ τ4.2.1 26 j ∧ τ4.2.1 26 j ≤ 2147483647 := fun j => hT.2 26 j
    have A27 : ∀ j, 0 ≤ τ4.2.1 27 j ∧ τ4.2.1 27 j ≤ 90000 := fun j => hT.2 27 j
    have A28 : ∀ j, 0 ≤ τ4.2.1 28 j ∧ τ4.2.1 28 j ≤ 60 := fun j => hT.2 28 j
    have A29 : ∀ j, 0 ≤ τ4.2.1 29 j ∧ τ4.2.1 29 j ≤ 1499 := fun j => hT.2 29 j
    have A30 : ∀ j, 0 ≤ τ4.2.1 30 j ∧ τ4.2.1 30 j ≤ 20000 := fun j => hT.2 30 j
    have A31 : ∀ j, 0 ≤ τ4.2.1 31 j ∧ τ4.2.1 31 j ≤ 20000 := fun j => hT.2 31 j
    have A32 : ∀ j, 0 ≤ τ4.2.1 32 j ∧ τ4.2.1 32 j ≤ 999999 := fun j => hT.2 32 j
    have A33 : ∀ j, 0 ≤ τ4.2.1 33 j ∧ τ4.2.1 33 j ≤ 20000 := fun j => hT.2 33 j
    have A34 : ∀ j, 0 ≤ τ4.2.1 34 j ∧ τ4.2.1 34 j ≤ 20000 := fun j => hT.2 34 j
    have A35 : ∀ j, 0 ≤ τ4.2.1 35 j ∧ τ4.2.1 35 j ≤ 1499 := fun j => hT.2 35 j
    have A36 : ∀ j, 0 ≤ τ4.2.1 36 j ∧ τ4.2.1 36 j ≤ 20000 := fun j => hT.2 36 j
    have A37 : ∀ j, 0 ≤ τ4.2.1 37 j ∧ τ4.2.1 37 j ≤ 19999 := fun j => hT.2 37 j
    have A44 : ∀ j, 0 ≤ τ4.2.1 44 j ∧ τ4.2.1 44 j ≤ 42000 := fun j => hT.2 44 j
    have A45 : ∀ j, 0 ≤ τ4.2.1 45 j ∧ τ4.2.1 45 j ≤ 1000 := fun j => hT.2 45 j
    have A49 : ∀ j, (-300) ≤ τ4.2.1 49 j ∧ τ4.2.1 49 j ≤ 67035 := fun j => hT.2 49 j
    have A51 : ∀ j, 0 ≤ τ4.2.1 51 j ∧ τ4.2.1 51 j ≤ 1499 := fun j => hT.2 51 j
    have A54 : ∀ j, 0 ≤ τ4.2.1 54 j ∧ τ4.2.1 54 j ≤ 999 := fun j => hT.2 54 j
    have v3 : 0 ≤ τ4.1 3 ∧ τ4.1 3 ≤ 2500 := hT.1 3
    have v4 : 0 ≤ τ4.1 4 ∧ τ4.1 4 ≤ 100 := hT.1 4
    have v5 : 0 ≤ τ4.1 5 ∧ τ4.1 5 ≤ 1000 := hT.1 5
    have v6 : 0 ≤ τ4.1 6 ∧ τ4.1 6 ≤ 30000 := hT.1 6
    have v7 : 0 ≤ τ4.1 7 ∧ τ4.1 7 ≤ 1500 := hT.1 7
    have v8 : 0 ≤ τ4.1 8 ∧ τ4.1 8 ≤ 1000 := hT.1 8
    have v9 : 0 ≤ τ4.1 9 ∧ τ4.1 9 ≤ 1500 := hT.1 9
    have v10 : 0 ≤ τ4.1 10 ∧ τ4.1 10 ≤ 1000 := hT.1 10
    have v11 : 0 ≤ τ4.1 11 ∧ τ4.1 11 ≤ 50 := hT.1 11
    have v12 : (-2147483648) ≤ τ4.1 12 ∧ τ4.1 12 ≤ 2147483647 := hT.1 12
    have v13 : 0 ≤ τ4.1 13 ∧ τ4.1 13 ≤ 90000 := hT.1 13
    have v14 : 0 ≤ τ4.1 14 ∧ τ4.1 14 ≤ 20000 := hT.1 14
    have v15 : 0 ≤ τ4.1 15 ∧ τ4.1 15 ≤ 20000 := hT.1 15
    have v16 : 0 ≤ τ4.1 16 ∧ τ4.1 16 ≤ 20000 := hT.1 16
    have v21 : 0 ≤ τ4.1 21 ∧ τ4.1 21 ≤ 20000 := hT.1 21
    have v22 : 0 ≤ τ4.1 22 ∧ τ4.1 22 ≤ 300 := hT.1 22
    have v23 : 0 ≤ τ4.1 23 ∧ τ4.1 23 ≤ 300 := hT.1 23
    have v24 : 0 ≤ τ4.1 24 ∧ τ4.1 24 ≤ 1499 := hT.1 24
    have v25 : 0 ≤ τ4.1 25 ∧ τ4.1 25 ≤ 3 := hT.1 25
    have v26 : 0 ≤ τ4.1 26 ∧ τ4.1 26 ≤ 5000010 := hT.1 26
    have v27 : 0 ≤ τ4.1 27 ∧ τ4.1 27 ≤ 1 := hT.1 27
    have v35 : 0 ≤ τ4.1 35 ∧ τ4.1 35 ≤ 7 := hT.1 35
    have v36 : 0 ≤ τ4.1 36 ∧ τ4.1 36 ≤ 1001 := hT.1 36
    have v37 : 0 ≤ τ4.1 37 ∧ τ4.1 37 ≤ 4 := hT.1 37
    have v38 : (-1) ≤ τ4.1 38 ∧ τ4.1 38 ≤ 999 := hT.1 38
    have v39 : (-1) ≤ τ4.1 39 ∧ τ4.1 39 ≤ 1499 := hT.1 39
    have v66 : 0 ≤ τ4.1 66 ∧ τ4.1 66 ≤ 1 := hT.1 66
    have a14_7 : 0 ≤ τ4.2.1 14 (τ4.1 7) ∧ τ4.2.1 14 (τ4.1 7) ≤ 30000 := hT.2 14 _
    have a36_15 : 0 ≤ τ4.2.1 36 (τ4.1 15) ∧ τ4.2.1 36 (τ4.1 15) ≤ 20000 := hT.2 36 _
    have av3 : σ.1 3 ≤ τ4.1 3 := ag.1 3 (by decide)
    have av5 : σ.1 5 ≤ τ4.1 5 := ag.1 5 (by decide)
    have av6 : σ.1 6 ≤ τ4.1 6 := ag.1 6 (by decide)
    have a14 := ag_k ag 14 7 1 (by decide) (σ.1 7) (by omega)
    exact ⟨hT, (show 0 ≤ x3 ∧ x3 ≤ 19 from by (first | assumption | omega | (simp only [st_s] <;> omega) | fail)), (show J_ht (τ4.1 3) (τ4.2.1 2) (τ4.2.1 3) (τ4.2.1 5) (τ4.2.1 6) from HT), (show J_mn (τ4.1 3) (τ4.1 5) ((τ4.1 7) + 1) (τ4.2.1 4) from MN), (show J_rks (τ4.1 5) (τ4.1 4) (τ4.2.1 10) (τ4.2.1 11) from RKS), (show J_vs (τ4.1 8) (τ4.1 5) (τ4.2.1 20) from VS), (show J_vs (τ4.1 6) (τ4.1 5) (τ4.2.1 15) from TX), (show J_va (τ4.1 8) 1000 (τ4.2.1 18) (τ4.2.1 20) from VA), (show J_mk (τ4.1 11) (τ4.1 8) (τ4.1 9) (τ4.1 10) (τ4.2.1 25) from MK), (show J_sc (τ4.1 7) (τ4.1 9) (τ4.2.1 13) (τ4.2.1 14) (τ4.2.1 15) (τ4.2.1 16) (τ4.2.1 22) (τ4.2.1 19) from SC), (show J_ff (τ4.1 5) (τ4.1 7) (τ4.2.1 9) (τ4.2.1 13) (τ4.2.1 14) (τ4.2.1 15) from FF), (show ∀ s : Int, τ4.2.1 26 s ≤ (τ4.1 12) from MT), (show J_all (τ4.1 7) (τ4.1 6) (τ4.1 13) (τ4.1 14) (τ4.1 15) (τ4.2.1 13) (τ4.2.1 14) (τ4.2.1 15) (τ4.2.1 16) (τ4.2.1 10) (τ4.2.1 27) (τ4.2.1 28) (τ4.2.1 29) (τ4.2.1 30) (τ4.2.1 31) (τ4.2.1 32) (τ4.2.1 33) (τ4.2.1 34) (τ4.2.1 35) (τ4.2.1 36) (τ4.2.1 37) from CJ), (show J_bp (τ4.2.1 44) (τ4.2.1 45) from BP), (show J_nl (τ4.1 3) (τ4.2.1 2) (τ4.2.1 3) (τ4.2.1 4) from NL), (show x3 = 0 → J_rs (τ4.1 35) (τ4.1 7) (τ4.1 6) (τ4.1 36) (τ4.1 37) (τ4.1 5) (τ4.1 8) (τ4.2.1 14) from by (first | exact fun z => absurd z (by decide) | (intro z; have w := q2_2 z; have rs := p14; unfold J_rs at rs ⊢; rw [show (s_v τ4 35 1).1 35 = 1 from rfl] at *; omega) | (intro z; have w := q2_2 z; have rs := J_rs_0 p14 (by omega); unfold J_rs; rw [g14_τ4, w7_τ4]; omega) | (intro z; have w := q5_9 z; have rs := J_rs_0 p14 (by omega); unfold J_rs; rw [g14_τ7, w7_τ7]; omega) | (intro z; have w := q8_11 z; have rs := J_rs_0 p14 (by omega); unfold J_rs; rw [g14_τ10, w7_τ10]; omega) | (intro z; have rs := J_rs_0 p14 (by omega); unfold J_rs; rw [g14_τ13, w7_τ13]; omega) | (intro z; have w1 := q14_5 z; have w2 := q14_7 z; have w3 := q14_8 z; have w4 := J_rs_4 p14 (by omega); rw [show τ16.1 7 = σ.1 7 from by omega] at w1; unfold J_rs; rw [show τ16.1 7 = σ.1 7 from by omega]; omega) | fail)), (show x3 = 0 → J_uc (τ4.1 35) (τ4.1 36) (τ4.2.1 10 (τ4.2.1 15 (τ4.2.1 14 (τ4.1 7)))) from by (first | exact fun z => absurd z (by decide) | (intro z y; exfalso; omega) | (intro z y y2; exact q14_6 z) | fail)), (show x3 = 0 → J_dj (τ4.1 35) (τ4.1 36) (τ4.2.1 54) from by (first | exact fun z => absurd z (by decide) | (intro z y; exfalso; omega) | (intro z y; exact q11_2 z) | fail)), (show x3 = 0 → J_it (τ4.1 35) (τ4.1 7) (τ4.1 6) (τ4.1 37) (τ4.2.1 14) (τ4.2.1 15) (τ4.2.1 16) (τ4.2.1 19) from by (first | exact fun z => absurd z (by decide) | (intro z y; exfalso; omega) | (intro z y; exact q14_9 z) | fail)), (show x3 = 0 → J_hu (τ4.1 35) (τ4.1 13) (τ4.1 7) from by (first | exact fun z => absurd z (by decide) | exact fun _ => HUs | (intro z; have hu := hux; unfold J_hu at hu ⊢; omega) | fail)), (show x3 = 0 → J_ft (τ4.1 35) (τ4.1 24) (τ4.1 7) (τ4.1 13) (τ4.1 14) (τ4.2.1 13) (τ4.2.1 14) (τ4.2.1 15) (τ4.2.1 16) (τ4.2.1 27) (τ4.2.1 28) (τ4.2.1 29) (τ4.2.1 30) (τ4.2.1 31) (τ4.2.1 32) from by (first | exact fun z => absurd z (by decide) | (intro z y; exfalso; omega) | exact fun _ => FRs | exact fun _ => frx | (intro z y; exact frx (by omega)) | (intro z y; have w := frx (by omega); rw [W7, W13, W14, W24, G13, G14, G15, G16, G27, G28, G29, G30, G31, G32]; exact w) | fail)), (show x3 = 0 → J_ss (τ4.1 35) (τ4.1 24) (τ4.1 21) (τ4.1 23) (τ4.1 22) (τ4.1 27) (τ4.1 26) (τ4.1 25) (τ4.1 16) (τ4.2.1 49) (τ4.2.1 51) from by (first | exact fun z => absurd z (by decide) | (intro z y; exfalso; omega) | exact fun _ => SPs | exact fun _ => spx | (intro z y; exact spx (by omega)) | fail)), (show x3 = 0 → (τ4.1 15) ≤ (τ4.1 16) ∧ τ4.2.1 36 (τ4.1 15) ≤ (τ4.1 16) from by (intro z; first | exact sux | omega)), (show x3 = 0 → (τ4.1 9) ≤ (τ4.1 7) from by (intro z; omega)), (show j_rr ((σ.1 5)) (σ.2.1 10) (τ4.2.1 10) from by (first | exact j_rr0 _ _ | (rw [g10_τ4]; exact j_rr0 _ _) | (rw [g10_τ13]; exact j_rr0 _ _) | (rw [G10]; exact j_rr0 _ _) | exact q5_8 | exact q8_10 | exact q14_4 | fail)), (show j_eq (σ.2.1 36 (σ.1 15)) (σ.2.1 37) (τ4.2.1 37) from CH), (show (τ4.1 12) ≤ (σ.1 12) + 1 from by (first | assumption | omega | (simp only [st_s] <;> omega) | fail)), (show c_Y σ τ4 from by (first | exact c_Y0 _ | exact q8_12 | exact q14_10 | exact c_Y_g W4 G11 G20 G22 G25 | exact c_Y_g (by omega) (by rw [g11_τ4]) (by rw [g20_τ4]) (by rw [g22_τ4]) (by rw [g25_τ4]) | exact c_Y_g (by omega) (by rw [g11_τ7]) (by rw [g20_τ7]) (by rw [g22_τ7]) (by rw [g25_τ7]) | exact c_Y_g (by omega) (by rw [g11_τ13]) (by rw [g20_τ13]) (by rw [g22_τ13]) (by rw [g25_τ13]) | fail)), (show j_nm σ τ4 from by (first | exact j_nm0 _ | exact (show j_nm σ τ4 from q2_6) | exact (show j_nm σ τ7 from q5_11) | exact (show j_nm σ τ10 from q8_14) | exact (show j_nm σ τ13 from j_nm_h hf_τ13 rfl) | exact (show j_nm σ τ16 from j_nm_h hf_τ16 rfl) | fail)), ag⟩
  ·
    exact ⟨hT, (show 0 ≤ 4 ∧ 4 ≤ 19 from by (first | assumption | omega | (simp only [st_s] <;> omega) | fail)), (show J_ht (σ.1 3) (σ.2.1 2) (σ.2.1 3) (σ.2.1 5) (σ.2.1 6) from HT), (show J_mn (σ.1 3) (σ.1 5) ((σ.1 7) + 1) (σ.2.1 4) from MN), (show J_rks (σ.1 5) (σ.1 4) (σ.2.1 10) (σ.2.1 11) from RKS), (show J_vs (σ.1 8) (σ.1 5) (σ.2.1 20) from VS), (show J_vs (σ.1 6) (σ.1 5) (σ.2.1 15) from TX), (show J_va (σ.1 8) 1000 (σ.2.1 18) (σ.2.1 20) from VA), (show J_mk (σ.1 11) (σ.1 8) (σ.1 9) (σ.1 10) (σ.2.1 25) from MK), (show J_sc (σ.1 7) (σ.1 9) (σ.2.1 13) (σ.2.1 14) (σ.2.1 15) (σ.2.1 16) (σ.2.1 22) (σ.2.1 19) from SC), (show J_ff (σ.1 5) (σ.1 7) (σ.2.1 9) (σ.2.1 13) (σ.2.1 14) (σ.2.1 15) from FF), (show ∀ s : Int, σ.2.1 26 s ≤ (σ.1 12) from MT), (show J_all (σ.1 7) (σ.1 6) (σ.1 13) (σ.1 14) (σ.1 15) (σ.2.1 13) (σ.2.1 14) (σ.2.1 15) (σ.2.1 16) (σ.2.1 10) (σ.2.1 27) (σ.2.1 28) (σ.2.1 29) (σ.2.1 30) (σ.2.1 31) (σ.2.1 32) (σ.2.1 33) (σ.2.1 34) (σ.2.1 35) (σ.2.1 36) (σ.2.1 37) from CJ), (show J_bp (σ.2.1 44) (σ.2.1 45) from BP), (show J_nl (σ.1 3) (σ.2.1 2) (σ.2.1 3) (σ.2.1 4) from NL), (show 4 = 0 → J_rs (σ.1 35) (σ.1 7) (σ.1 6) (σ.1 36) (σ.1 37) (σ.1 5) (σ.1 8) (σ.2.1 14) from by (first | exact fun z => absurd z (by decide) | (intro z; have w := q2_2 z; have rs := p14; unfold J_rs at rs ⊢; rw [show (s_v τ4 35 1).1 35 = 1 from rfl] at *; omega) | (intro z; have w := q2_2 z; have rs := J_rs_0 p14 (by omega); unfold J_rs; rw [g14_τ4, w7_τ4]; omega) | (intro z; have w := q5_9 z; have rs := J_rs_0 p14 (by omega); unfold J_rs; rw [g14_τ7, w7_τ7]; omega) | (intro z; have w := q8_11 z; have rs := J_rs_0 p14 (by omega); unfold J_rs; rw [g14_τ10, w7_τ10]; omega) | (intro z; have rs := J_rs_0 p14 (by omega); unfold J_rs; rw [g14_τ13, w7_τ13]; omega) | (intro z; have w1 := q14_5 z; have w2 := q14_7 z; have w3 := q14_8 z; have w4 := J_rs_4 p14 (by omega); rw [show τ16.1 7 = σ.1 7 from by omega] at w1; unfold J_rs; rw [show τ16.1 7 = σ.1 7 from by omega]; omega) | fail)), (show 4 = 0 → J_uc (σ.1 35) (σ.1 36) (σ.2.1 10 (σ.2.1 15 (σ.2.1 14 (σ.1 7)))) from by (first | exact fun z => absurd z (by decide) | (intro z y; exfalso; omega) | (intro z y y2; exact q14_6 z) | fail)), (show 4 = 0 → J_dj (σ.1 35) (σ.1 36) (σ.2.1 54) from by (first | exact fun z => absurd z (by decide) | (intro z y; exfalso; omega) | (intro z y; exact q11_2 z) | fail)), (show 4 = 0 → J_it (σ.1 35) (σ.1 7) (σ.1 6) (σ.1 37) (σ.2.1 14) (σ.2.1 15) (σ.2.1 16) (σ.2.1 19) from by (first | exact fun z => absurd z (by decide) | (intro z y; exfalso; omega) | (intro z y; exact q14_9 z) | fail)), (show 4 = 0 → J_hu (σ.1 35) (σ.1 13) (σ.1 7) from by (first | exact fun z => absurd z (by decide) | exact fun _ => HUs | (intro z; have hu := hux; unfold J_hu at hu ⊢; omega) | fail)), (show 4 = 0 → J_ft (σ.1 35) (σ.1 24) (σ.1 7) (σ.1 13) (σ.1 14) (σ.2.1 13) (σ.2.1 14) (σ.2.1 15) (σ.2.1 16) (σ.2.1 27) (σ.2.1 28) (σ.2.1 29) (σ.2.1 30) (σ.2.1 31) (σ.2.1 32) from by (first | exact fun z => absurd z (by decide) | (intro z y; exfalso; omega) | exact fun _ => FRs | exact fun _ => frx | (intro z y; exact frx (by omega)) | (intro z y; have w := frx (by omega); rw [W7, W13, W14, W24, G13, G14, G15, G16, G27, G28, G29, G30, G31, G32]; exact w) | fail)), (show 4 = 0 → J_ss (σ.1 35) (σ.1 24) (σ.1 21) (σ.1 23) (σ.1 22) (σ.1 27) (σ.1 26) (σ.1 25) (σ.1 16) (σ.2.1 49) (σ.2.1 51) from by (first | exact fun z => absurd z (by decide) | (intro z y; exfalso; omega) | exact fun _ => SPs | exact fun _ => spx | (intro z y; exact spx (by omega)) | fail)), (show 4 = 0 → (σ.1 15) ≤ (σ.1 16) ∧ σ.2.1 36 (σ.1 15) ≤ (σ.1 16) from by (intro z; first | exact sux | omega)), (show 4 = 0 → (σ.1 9) ≤ (σ.1 7) from by (intro z; omega)), (show j_rr ((σ.1 5)) (σ.2.1 10) (σ.2.1 10) from by (first | exact j_rr0 _ _ | (rw [g10_τ4]; exact j_rr0 _ _) | (rw [g10_τ13]; exact j_rr0 _ _) | (rw [G10]; exact j_rr0 _ _) | exact q5_8 | exact q8_10 | exact q14_4 | fail)), (show j_eq (σ.2.1 36 (σ.1 15)) (σ.2.1 37) (σ.2.1 37) from CH), (show (σ.1 12) ≤ (σ.1 12) + 1 from by (first | assumption | omega | (simp only [st_s] <;> omega) | fail)), (show c_Y σ σ from by (first | exact c_Y0 _ | exact q8_12 | exact q14_10 | exact c_Y_g W4 G11 G20 G22 G25 | exact c_Y_g (by omega) (by rw [g11_τ4]) (by rw [g20_τ4]) (by rw [g22_τ4]) (by rw [g25_τ4]) | exact c_Y_g (by omega) (by rw [g11_τ7]) (by rw [g20_τ7]) (by rw [g22_τ7]) (by rw [g25_τ7]) | exact c_Y_g (by omega) (by rw [g11_τ13]) (by rw [g20_τ13]) (by rw [g22_τ13]) (by rw [g25_τ13]) | fail)), (show j_nm σ σ from by (first | exact j_nm0 _ | exact (show j_nm σ τ4 from q2_6) | exact (show j_nm σ τ7 from q5_11) | exact (show j_nm σ τ10 from q8_14) | exact (show j_nm σ τ13 from j_nm_h hf_τ13 rfl) | exact (show j_nm σ τ16 from j_nm_h hf_τ16 rfl) | fail)), ag⟩
  ·
    have rs2 := J_rs_2 rsx c1
    refine ⟨_, K2_X7_declareConstant hT (show 0 ≤ n1 from by (first | assumption | omega | (simp only [st_s] <;> omega) | fail)) (show 0 ≤ n2 from by (first | assumption | omega | (simp only [st_s] <;> omega) | fail)) (show n1 + n2 ≤ 60000 from by (first | assumption | omega | (simp only [st_s] <;> omega) | fail)) (show ¬ σ.1 66 = 0 from by (first | assumption | omega | (simp only [st_s] <;> omega) | fail)) (show (σ.1 36) ≤ 1000 from by (first | assumption | omega | (simp only [st_s] <;> omega) | fail)) (show J_ht (σ.1 3) (σ.2.1 2) (σ.2.1 3) (σ.2.1 5) (σ.2.1 6) from HT) (show J_mn (σ.1 3) (σ.1 5) ((σ.1 7) + 1) (σ.2.1 4) from MN) (show J_vs (σ.1 8) (σ.1 5) (σ.2.1 20) from VS) (show J_vs (σ.1 6) (σ.1 5) (σ.2.1 15) from TX) (show J_rks (σ.1 5) (σ.1 4) (σ.2.1 10) (σ.2.1 11) from RKS) (show J_ff (σ.1 5) (σ.1 7) (σ.2.1 9) (σ.2.1 13) (σ.2.1 14) (σ.2.1 15) from FF) (show J_nl (σ.1 3) (σ.2.1 2) (σ.2.1 3) (σ.2.1 4) from NL) (show (σ.1 38) = -1 → (σ.1 39) = -1 → ∀ n : Int, 0 ≤ n → n < (σ.1 3) → ¬ c_eq (σ.2.1 2) (σ.2.1 3) n (σ.2.1 0) n1 n2 from by (first | assumption | omega | (simp only [st_s] <;> omega) | fail)), ?_⟩
    intro x6 τ7 r_x6 hn_τ7 hf_τ7 hq
    obtain ⟨hT, q5_1, q5_2, q5_3, q5_4, q5_5, q5_6, q5_7, q5_8, q5_9, q5_10, q5_11, q5_12⟩ := hq
    replace q5_1 : 0 ≤ x6 ∧ x6 ≤ 19 := q5_1
    replace q5_2 : J_ht (τ7.1 3) (τ7.2.1 2) (τ7.2.1 3) (τ7.2.1 5) (τ7.2.1 6) := q5_2
    replace q5_3 : J_mn (τ7.1 3) (τ7.1 5) ((τ7.1 7) + 1) (τ7.2.1 4) := q5_3
    replace q5_4 : J_vs (τ7.1 8) (τ7.1 5) (τ7.2.1 20) := q5_4
    replace q5_5 : J_vs (τ7.1 6) (τ7.1 5) (τ7.2.1 15) := q5_5
    replace q5_6 : J_rks (τ7.1 5) (τ7.1 4) (τ7.2.1 10) (τ7.2.1 11) := q5_6
    replace q5_7 : J_ff (τ7.1 5) (τ7.1 7) (τ7.2.1 9) (τ7.2.1 13) (τ7.2.1 14) (τ7.2.1 15) := q5_7
    replace q5_8 : j_rr ((σ.1 5)) (σ.2.1 10) (τ7.2.1 10) := q5_8
    replace q5_9 : x6 = 0 → (τ7.1 36) = (σ.1 36) + 1 ∧ (τ7.1 5) = (σ.1 5) + 1 := q5_9
    replace q5_10 : J_nl (τ7.1 3) (τ7.2.1 2) (τ7.2.1 3) (τ7.2.1 4) := q5_10
    replace q5_11 : j_nm σ τ7 := q5_11
    replace q5_12 : c_ag σ τ7 := q5_12
    replace ag : c_ag σ τ7 := ag_t ag q5_12 rfl
    have w4_τ7 : τ7.1 4 = σ.1 4 := hf_τ7.1 4 (by decide)
    have w6_τ7 : τ7.1 6 = σ.1 6 := hf_τ7.1 6 (by decide)
    have w7_τ7 : τ7.1 7 = σ.1 7 := hf_τ7.1 7 (by decide)
    have w8_τ7 : τ7.1 8 = σ.1 8 := hf_τ7.1 8 (by decide)
    have w9_τ7 : τ7.1 9 = σ.1 9 := hf_τ7.1 9 (by decide)
    have w10_τ7 : τ7.1 10 = σ.1 10 := hf_τ7.1 10 (by decide)
    have w11_τ7 : τ7.1 11 = σ.1 11 := hf_τ7.1 11 (by decide)
    have w12_τ7 : τ7.1 12 = σ.1 12 := hf_τ7.1 12 (by decide)
    have w13_τ7 : τ7.1 13 = σ.1 13 := hf_τ7.1 13 (by decide)
    have w14_τ7 : τ7.1 14 = σ.1 14 := hf_τ7.1 14 (by decide)
    have w15_τ7 : τ7.1 15 = σ.1 15 := hf_τ7.1 15 (by decide)
    have w16_τ7 : τ7.1 16 = σ.1 16 := hf_τ7.1 16 (by decide)
    have w21_τ7 : τ7.1 21 = σ.1 21 := hf_τ7.1 21 (by decide)
    have w22_τ7 : τ7.1 22 = σ.1 22 := hf_τ7.1 22 (by decide)
    have w23_τ7 : τ7.1 23 = σ.1 23 := hf_τ7.1 23 (by decide)
    have w24_τ7 : τ7.1 24 = σ.1 24 := hf_τ7.1 24 (by decide)
    have w25_τ7 : τ7.1 25 = σ.1 25 := hf_τ7.1 25 (by decide)
    have w26_τ7 : τ7.1 26 = σ.1 26 := hf_τ7.1 26 (by decide)
    have w27_τ7 : τ7.1 27 = σ.1 27 := hf_τ7.1 27 (by decide)
    have w35_τ7 : τ7.1 35 = σ.1 35 := hf_τ7.1 35 (by decide)
    have w37_τ7 : τ7.1 37 = σ.1 37 := hf_τ7.1 37 (by decide)
    have w38_τ7 : τ7.1 38 = σ.1 38 := hf_τ7.1 38 (by decide)
    have w39_τ7 : τ7.1 39 = σ.1 39 := hf_τ7.1 39 (by decide)
    have w66_τ7 : τ7.1 66 = σ.1 66 := hf_τ7.1 66 (by decide)
    have g11_τ7 : τ7.2.1 11 = σ.2.1 11 := hf_τ7.2.1 11 (by decide)
    have g13_τ7 : τ7.2.1 13 = σ.2.1 13 := hf_τ7.2.1 13 (by decide)
    have g14_τ7 : τ7.2.1 14 = σ.2.1 14 := hf_τ7.2.1 14 (by decide)
    have g15_τ7 : τ7.2.1 15 = σ.2.1 15 := hf_τ7.2.1 15 (by decide)
    have g16_τ7 : τ7.2.1 16 = σ.2.1 16 := hf_τ7.2.1 16 (by decide)
    have g18_τ7 : τ7.2.1 18 = σ.2.1 18 := hf_τ7.2.1 18 (by decide)
    have g19_τ7 : τ7.2.1 19 = σ.2.1 19 := hf_τ7.2.1 19 (by decide)
    have g20_τ7 : τ7.2.1 20 = σ.2.1 20 := hf_τ7.2.1 20 (by decide)
    have g22_τ7 : τ7.2.1 22 = σ.2.1 22 := hf_τ7.2.1 22 (by decide)
    have g25_τ7 : τ7.2.1 25 = σ.2.1 25 := hf_τ7.2.1 25 (by decide)
    have g26_τ7 : τ7.2.1 26 = σ.2.1 26 := hf_τ7.2.1 26 (by decide)
    have g27_τ7 : τ7.2.1 27 = σ.2.1 27 := hf_τ7.2.1 27 (by decide)
    have g28_τ7 : τ7.2.1 28 = σ.2.1 28 := hf_τ7.2.1 28 (by decide)
    have g29_τ7 : τ7.2.1 29 = σ.2.1 29 := hf_τ7.2.1 29 (by decide)
    have g30_τ7 : τ7.2.1 30 = σ.2.1 30 := hf_τ7.2.1 30 (by decide)
    have g31_τ7 : τ7.2.1 31 = σ.2.1 31 := hf_τ7.2.1 31 (by decide)
    have g32_τ7 : τ7.2.1 32 = σ.2.1 32 := hf_τ7.2.1 32 (by decide)
    have g33_τ7 : τ7.2.1 33 = σ.2.1 33 := hf_τ7.2.1 33 (by decide)
    have g34_τ7 : τ7.2.1 34 = σ.2.1 34 := hf_τ7.2.1 34 (by decide)
    have g35_τ7 : τ7.2.1 35 = σ.2.1 35 := hf_τ7.2.1 35 (by decide)
    have g36_τ7 : τ7.2.1 36 = σ.2.1 36 := hf_τ7.2.1 36 (by decide)
    have g37_τ7 : τ7.2.1 37 = σ.2.1 37 := hf_τ7.2.1 37 (by decide)
    have g44_τ7 : τ7.2.1 44 = σ.2.1 44 := hf_τ7.2.1 44 (by decide)
    have g45_τ7 : τ7.2.1 45 = σ.2.1 45 := hf_τ7.2.1 45 (by decide)
    have g49_τ7 : τ7.2.1 49 = σ.2.1 49 := hf_τ7.2.1 49 (by decide)
    have g51_τ7 : τ7.2.1 51 = σ.2.1 51 := hf_τ7.2.1 51 (by decide)
    have g54_τ7 : τ7.2.1 54 = σ.2.1 54 := hf_τ7.2.1 54 (by decide)
    have W7 : τ7.1 7 = σ.1 7 := by first | exact w7_τ7.trans W7 | omega
    have W9 : τ7.1 9 = σ.1 9 := by first | exact w9_τ7.trans W9 | omega
    have W11 : τ7.1 11 = σ.1 11 := by first | exact w11_τ7.trans W11 | omega
    have W12 : τ7.1 12 = σ.1 12 := by first | exact w12_τ7.trans W12 | omega
    have W13 : τ7.1 13 = σ.1 13 := by first | exact w13_τ7.trans W13 | omega
    have W14 : τ7.1 14 = σ.1 14 := by first | exact w14_τ7.trans W14 | omega
    have W15 : τ7.1 15 = σ.1 15 := by first | exact w15_τ7.trans W15 | omega
    have W16 : τ7.1 16 = σ.1 16 := by first | exact w16_τ7.trans W16 | omega
    have W21 : τ7.1 21 = σ.1 21 := by first | exact w21_τ7.trans W21 | omega
    have W22 : τ7.1 22 = σ.1 22 := by first | exact w22_τ7.trans W22 | omega
    have W23 : τ7.1 23 = σ.1 23 := by first | exact w23_τ7.trans W23 | omega
    have W24 : τ7.1 24 = σ.1 24 := by first | exact w24_τ7.trans W24 | omega
    have W25 : τ7.1 25 = σ.1 25 := by first | exact w25_τ7.trans W25 | omega
    have W26 : τ7.1 26 = σ.1 26 := by first | exact w26_τ7.trans W26 | omega
    have W27 : τ7.1 27 = σ.1 27 := by first | exact w27_τ7.trans W27 | omega
    have W37 : τ7.1 37 = σ.1 37 := by first | exact w37_τ7.trans W37 | omega
    have W38 : τ7.1 38 = σ.1 38 := by first | exact w38_τ7.trans W38 | omega
    have W39 : τ7.1 39 = σ.1 39 := by first | exact w39_τ7.trans W39 | omega
    have W66 : τ7.1 66 = σ.1 66 := by first | exact w66_τ7.trans W66 | omega
    have G13 : τ7.2.1 13 = σ.2.1 13 := (g13_τ7).trans G13
    have G19 : τ7.2.1 19 = σ.2.1 19 := (g19_τ7).trans G19
    have G22 : τ7.2.1 22 = σ.2.1 22 := (g22_τ7).trans G22
    have G25 : τ7.2.1 25 = σ.2.1 25 := (g25_τ7).trans G25
    have G26 : τ7.2.1 26 = σ.2.1 26 := (g26_τ7).trans G26
    have G27 : τ7.2.1 27 = σ.2.1 27 := (g27_τ7).trans G27
    have G28 : τ7.2.1 28 = σ.2.1 28 := (g28_τ7).trans G28
    have G29 : τ7.2.1 29 = σ.2.1 29 := (g29_τ7).trans G29
    have G30 : τ7.2.1 30 = σ.2.1 30 := (g30_τ7).trans G30
    have G31 : τ7.2.1 31 = σ.2.1 31 := (g31_τ7).trans G31
    have G32 : τ7.2.1 32 = σ.2.1 32 := (g32_τ7).trans G32
    have G33 : τ7.2.1 33 = σ.2.1 33 := (g33_τ7).trans G33
    have G34 : τ7.2.1 34 = σ.2.1 34 := (g34_τ7).trans G34
    have G35 : τ7.2.1 35 = σ.2.1 35 := (g35_τ7).trans G35
    have G36 : τ7.2.1 36 = σ.2.1 36 := (g36_τ7).trans G36
    have G37 : τ7.2.1 37 = σ.2.1 37 := (g37_τ7).trans G37
    have G44 : τ7.2.1 44 = σ.2.1 44 := (g44_τ7).trans G44
    have G45 : τ7.2.1 45 = σ.2.1 45 := (g45_τ7).trans G45
    have G49 : τ7.2.1 49 = σ.2.1 49 := (g49_τ7).trans G49
    have G51 : τ7.2.1 51 = σ.2.1 51 := (g51_τ7).trans G51
    have y14_7_τ7 : τ7.2.1 14 (τ7.1 7) = (σ.2.1 14) (σ.1 7) := by rw [g14_τ7, w7_τ7]
    have y36_15_τ7 : τ7.2.1 36 (τ7.1 15) = (σ.2.1 36) (σ.1 15) := by rw [g36_τ7, w15_τ7]
    have HT : J_ht (τ7.1 3) (τ7.2.1 2) (τ7.2.1 3) (τ7.2.1 5) (τ7.2.1 6) := q5_2
    have NL : J_nl (τ7.1 3) (τ7.2.1 2) (τ7.2.1 3) (τ7.2.1 4) := q5_10
    have MN : J_mn (τ7.1 3) (τ7.1 5) ((τ7.1 7) + 1) (τ7.2.1 4) := q5_3
    have VA : J_va (τ7.1 8) 1000 (τ7.2.1 18) (τ7.2.1 20) := by rw [show (J_va (τ7.1 8) 1000 (τ7.2.1 18) (τ7.2.1 20)) = (J_va (σ.1 8) 1000 (σ.2.1 18) (σ.2.1 20)) from by rw [w8_τ7, g18_τ7, g20_τ7]]; exact VA
    have SC : J_sc (τ7.1 7) (τ7.1 9) (τ7.2.1 13) (τ7.2.1 14) (τ7.2.1 15) (τ7.2.1 16) (τ7.2.1 22) (τ7.2.1 19) := by rw [show (J_sc (τ7.1 7) (τ7.1 9) (τ7.2.1 13) (τ7.2.1 14) (τ7.2.1 15) (τ7.2.1 16) (τ7.2.1 22) (τ7.2.1 19)) = (J_sc (σ.1 7) (σ.1 9) (σ.2.1 13) (σ.2.1 14) (σ.2.1 15) (σ.2.1 16) (σ.2.1 22) (σ.2.1 19)) from by rw [w7_τ7, w9_τ7, g13_τ7, g14_τ7, g15_τ7, g16_τ7, g19_τ7, g22_τ7]]; exact SC
    have MK : J_mk (τ7.1 11) (τ7.1 8) (τ7.1 9) (τ7.1 10) (τ7.2.1 25) := by rw [show (J_mk (τ7.1 11) (τ7.1 8) (τ7.1 9) (τ7.1 10) (τ7.2.1 25)) = (J_mk (σ.1 11) (σ.1 8) (σ.1 9) (σ.1 10) (σ.2.1 25)) from by rw [w8_τ7, w9_τ7, w10_τ7, w11_τ7, g25_τ7]]; exact MK
    have FF : J_ff (τ7.1 5) (τ7.1 7) (τ7.2.1 9) (τ7.2.1 13) (τ7.2.1 14) (τ7.2.1 15) := q5_7
    have MT : ∀ s : Int, τ7.2.1 26 s ≤ (τ7.1 12) := by rw [show (∀ s : Int, τ7.2.1 26 s ≤ (τ7.1 12)) = (∀ s : Int, σ.2.1 26 s ≤ (σ.1 12)) from by rw [w12_τ7, g26_τ7]]; exact MT
    have VS : J_vs (τ7.1 8) (τ7.1 5) (τ7.2.1 20) := q5_4
    have TX : J_vs (τ7.1 6) (τ7.1 5) (τ7.2.1 15) := q5_5
    have RKS : J_rks (τ7.1 5) (τ7.1 4) (τ7.2.1 10) (τ7.2.1 11) := q5_6
    have BP : J_bp (τ7.2.1 44) (τ7.2.1 45) := by rw [show (J_bp (τ7.2.1 44) (τ7.2.1 45)) = (J_bp (σ.2.1 44) (σ.2.1 45)) from by rw [g44_τ7, g45_τ7]]; exact BP
    have CH : j_eq (σ.2.1 36 (σ.1 15)) (σ.2.1 37) (τ7.2.1 37) := by rw [show (j_eq (σ.2.1 36 (σ.1 15)) (σ.2.1 37) (τ7.2.1 37)) = (j_eq (σ.2.1 36 (σ.1 15)) (σ.2.1 37) (σ.2.1 37)) from by rw [g37_τ7]]; exact CH
    have IPs : J_it (τ7.1 35) (τ7.1 7) (τ7.1 6) (τ7.1 37) (τ7.2.1 14) (τ7.2.1 15) (τ7.2.1 16) (τ7.2.1 19) := by rw [show (J_it (τ7.1 35) (τ7.1 7) (τ7.1 6) (τ7.1 37) (τ7.2.1 14) (τ7.2.1 15) (τ7.2.1 16) (τ7.2.1 19)) = (J_it (σ.1 35) (σ.1 7) (σ.1 6) (σ.1 37) (σ.2.1 14) (σ.2.1 15) (σ.2.1 16) (σ.2.1 19)) from by rw [w6_τ7, w7_τ7, w35_τ7, w37_τ7, g14_τ7, g15_τ7, g16_τ7, g19_τ7]]; exact IPs
    have HUs : J_hu (τ7.1 35) (τ7.1 13) (τ7.1 7) := by rw [show (J_hu (τ7.1 35) (τ7.1 13) (τ7.1 7)) = (J_hu (σ.1 35) (σ.1 13) (σ.1 7)) from by rw [w7_τ7, w13_τ7, w35_τ7]]; exact HUs
    have FRs : J_ft (τ7.1 35) (τ7.1 24) (τ7.1 7) (τ7.1 13) (τ7.1 14) (τ7.2.1 13) (τ7.2.1 14) (τ7.2.1 15) (τ7.2.1 16) (τ7.2.1 27) (τ7.2.1 28) (τ7.2.1 29) (τ7.2.1 30) (τ7.2.1 31) (τ7.2.1 32) := by rw [show (J_ft (τ7.1 35) (τ7.1 24) (τ7.1 7) (τ7.1 13) (τ7.1 14) (τ7.2.1 13) (τ7.2.1 14) (τ7.2.1 15) (τ7.2.1 16) (τ7.2.1 27) (τ7.2.1 28) (τ7.2.1 29) (τ7.2.1 30) (τ7.2.1 31) (τ7.2.1 32)) = (J_ft (σ.1 35) (σ.1 24) (σ.1 7) (σ.1 13) (σ.1 14) (σ.2.1 13) (σ.2.1 14) (σ.2.1 15) (σ.2.1 16) (σ.2.1 27) (σ.2.1 28) (σ.2.1 29) (σ.2.1 30) (σ.2.1 31) (σ.2.1 32)) from by rw [w7_τ7, w13_τ7, w14_τ7, w24_τ7, w35_τ7, g13_τ7, g14_τ7, g15_τ7, g16_τ7, g27_τ7, g28_τ7, g29_τ7, g30_τ7, g31_τ7, g32_τ7]]; exact FRs
    have SPs : J_ss (τ7.1 35) (τ7.1 24) (τ7.1 21) (τ7.1 23) (τ7.1 22) (τ7.1 27) (τ7.1 26) (τ7.1 25) (τ7.1 16) (τ7.2.1 49) (τ7.2.1 51) := by rw [show (J_ss (τ7.1 35) (τ7.1 24) (τ7.1 21) (τ7.1 23) (τ7.1 22) (τ7.1 27) (τ7.1 26) (τ7.1 25) (τ7.1 16) (τ7.2.1 49) (τ7.2.1 51)) = (J_ss (σ.1 35) (σ.1 24) (σ.1 21) (σ.1 23) (σ.1 22) (σ.1 27) (σ.1 26) (σ.1 25) (σ.1 16) (σ.2.1 49) (σ.2.1 51)) from by rw [w16_τ7, w21_τ7, w22_τ7, w23_τ7, w24_τ7, w25_τ7, w26_τ7, w27_τ7, w35_τ7, g49_τ7, g51_τ7]]; exact SPs
    have A2 : ∀ j, 0 ≤ τ7.2.1 2 j ∧ τ7.2.1 2 j ≤ 65535 := fun j => hT.2 2 j
    have A3 : ∀ j, 0 ≤ τ7.2.1 3 j ∧ τ7.2.1 3 j ≤ 30000 := fun j => hT.2 3 j
    have A4 : ∀ j, (-1000) ≤ τ7.2.1 4 j ∧ τ7.2.1 4 j ≤ 1499 := fun j => hT.2 4 j
    have A5 : ∀ j, 0 ≤ τ7.2.1 5 j ∧ τ7.2.1 5 j ≤ 2500 := fun j => hT.2 5 j
    have A6 : ∀ j, 0 ≤ τ7.2.1 6 j ∧ τ7.2.1 6 j ≤ 2500 := fun j => hT.2 6 j
    have A9 : ∀ j, (-1) ≤ τ7.2.1 9 j ∧ τ7.2.1 9 j ≤ 1499 := fun j => hT.2 9 j
    have A10 : ∀ j, (-1) ≤ τ7.2.1 10 j ∧ τ7.2.1 10 j ≤ 99 := fun j => hT.2 10 j
    have A11 : ∀ j, 0 ≤ τ7.2.1 11 j ∧ τ7.2.1 11 j ≤ 999 := fun j => hT.2 11 j
    have A13 : ∀ j, 0 ≤ τ7.2.1 13 j ∧ τ7.2.1 13 j ≤ 4 := fun j => hT.2 13 j
    have A14 : ∀ j, 0 ≤ τ7.2.1 14 j ∧ τ7.2.1 14 j ≤ 30000 := fun j => hT.2 14 j
    have A15 : ∀ j, 0 ≤ τ7.2.1 15 j ∧ τ7.2.1 15 j ≤ 999 := fun j => hT.2 15 j
    have A16 : ∀ j, (-1) ≤ τ7.2.1 16 j ∧ τ7.2.1 16 j ≤ 1499 := fun j => hT.2 16 j
    have A18 : ∀ j, 0 ≤ τ7.2.1 18 j ∧ τ7.2.1 18 j ≤ 1 := fun j => hT.2 18 j
    have A19 : ∀ j, (-1) ≤ τ7.2.1 19 j ∧ τ7.2.1 19 j ≤ 1499 := fun j => hT.2 19 j
    have A20 : ∀ j, 0 ≤ τ7.2.1 20 j ∧ τ7.2.1 20 j ≤ 999 := fun j => hT.2 20 j
    have A22 : ∀ j, 0 ≤ τ7.2.1 22 j ∧ τ7.2.1 22 j ≤ 1499 := fun j => hT.2 22 j
    have A26 : ∀ j, (-2147483648) ≤ τ7.2.1 26 j ∧ τ7.2.1 26 j ≤ 2147483647 := fun j => hT.2 26 j
    have A27 : ∀ j, 0 ≤ τ7.2.1 27 j ∧ τ7.2.1 27 j ≤ 90000 := fun j => hT.2 27 j
    have A28 : ∀ j, 0 ≤ τ7.2.1 28 j ∧ τ7.2.1 28 j ≤ 60 := fun j => hT.2 28 j
    have A29 : ∀ j, 0 ≤ τ7.2.1 29 j ∧ τ7.2.1 29 j ≤ 1499 := fun j => hT.2 29 j
    have A30 : ∀ j, 0 ≤ τ7.2.1 30 j ∧ τ7.2.1 30 j ≤ 20000 := fun j => hT.2 30 j
    have A31 : ∀ j, 0 ≤ τ7.2.1 31 j ∧ τ7.2.1 31 j ≤ 20000 := fun j => hT.2 31 j
    have A32 : ∀ j, 0 ≤ τ7.2.1 32 j ∧ τ7.2.1 32 j ≤ 999999 := fun j => hT.2 32 j
    have A33 : ∀ j, 0 ≤ τ7.2.1 33 j ∧ τ7.2.1 33 j ≤ 20000 := fun j => hT.2 33 j
    have A34 : ∀ j, 0 ≤ τ7.2.1 34 j ∧ τ7.2.1 34 j ≤ 20000 := fun j => hT.2 34 j
    have A35 : ∀ j, 0 ≤ τ7.2.1 35 j ∧ τ7.2.1 35 j ≤ 1499 := fun j => hT.2 35 j
    have A36 : ∀ j, 0 ≤ τ7.2.1 36 j ∧ τ7.2.1 36 j ≤ 20000 := fun j => hT.2 36 j
    have A37 : ∀ j, 0 ≤ τ7.2.1 37 j ∧ τ7.2.1 37 j ≤ 19999 := fun j => hT.2 37 j
    have A44 : ∀ j, 0 ≤ τ7.2.1 44 j ∧ τ7.2.1 44 j ≤ 42000 := fun j => hT.2 44 j
    have A45 : ∀ j, 0 ≤ τ7.2.1 45 j ∧ τ7.2.1 45 j ≤ 1000 := fun j => hT.2 45 j
    have A49 : ∀ j, (-300) ≤ τ7.2.1 49 j ∧ τ7.2.1 49 j ≤ 67035 := fun j => hT.2 49 j
    have A51 : ∀ j, 0 ≤ τ7.2.1 51 j ∧ τ7.2.1 51 j ≤ 1499 := fun j => hT.2 51 j
    have A54 : ∀ j, 0 ≤ τ7.2.1 54 j ∧ τ7.2.1 54 j ≤ 999 := fun j => hT.2 54 j
    have v3 : 0 ≤ τ7.1 3 ∧ τ7.1 3 ≤ 2500 := hT.1 3
    have v4 : 0 ≤ τ7.1 4 ∧ τ7.1 4 ≤ 100 := hT.1 4
    have v5 : 0 ≤ τ7.1 5 ∧ τ7.1 5 ≤ 1000 := hT.1 5
    have v6 : 0 ≤ τ7.1 6 ∧ τ7.1 6 ≤ 30000 := hT.1 6
    have v7 : 0 ≤ τ7.1 7 ∧ τ7.1 7 ≤ 1500 := hT.1 7
    have v8 : 0 ≤ τ7.1 8 ∧ τ7.1 8 ≤ 1000 := hT.1 8
    have v9 : 0 ≤ τ7.1 9 ∧ τ7.1 9 ≤ 1500 := hT.1 9
    have v10 : 0 ≤ τ7.1 10 ∧ τ7.1 10 ≤ 1000 := hT.1 10
    have v11 : 0 ≤ τ7.1 11 ∧ τ7.1 11 ≤ 50 := hT.1 11
    have v12 : (-2147483648) ≤ τ7.1 12 ∧ τ7.1 12 ≤ 2147483647 := hT.1 12
    have v13 : 0 ≤ τ7.1 13 ∧ τ7.1 13 ≤ 90000 := hT.1 13
    have v14 : 0 ≤ τ7.1 14 ∧ τ7.1 14 ≤ 20000 := hT.1 14
    have v15 : 0 ≤ τ7.1 15 ∧ τ7.1 15 ≤ 20000 := hT.1 15
    have v16 : 0 ≤ τ7.1 16 ∧ τ7.1 16 ≤ 20000 := hT.1 16
    have v21 : 0 ≤ τ7.1 21 ∧ τ7.1 21 ≤ 20000 := hT.1 21
    have v22 : 0 ≤ τ7.1 22 ∧ τ7.1 22 ≤ 300 := hT.1 22
    have v23 : 0 ≤ τ7.1 23 ∧ τ7.1 23 ≤ 300 := hT.1 23
    have v24 : 0 ≤ τ7.1 24 ∧ τ7.1 24 ≤ 1499 := hT.1 24
    have v25 : 0 ≤ τ7.1 25 ∧ τ7.1 25 ≤ 3 := hT.1 25
    have v26 : 0 ≤ τ7.1 26 ∧ τ7.1 26 ≤ 5000010 := hT.1 26
    have v27 : 0 ≤ τ7.1 27 ∧ τ7.1 27 ≤ 1 := hT.1 27
    have v35 : 0 ≤ τ7.1 35 ∧ τ7.1 35 ≤ 7 := hT.1 35
    have v36 : 0 ≤ τ7.1 36 ∧ τ7.1 36 ≤ 1001 := hT.1 36
    have v37 : 0 ≤ τ7.1 37 ∧ τ7.1 37 ≤ 4 := hT.1 37
    have v38 : (-1) ≤ τ7.1 38 ∧ τ7.1 38 ≤ 999 := hT.1 38
    have v39 : (-1) ≤ τ7.1 39 ∧ τ7.1 39 ≤ 1499 := hT.1 39
    have v66 : 0 ≤ τ7.1 66 ∧ τ7.1 66 ≤ 1 := hT.1 66
    have a14_7 : 0 ≤ τ7.2.1 14 (τ7.1 7) ∧ τ7.2.1 14 (τ7.1 7) ≤ 30000 := hT.2 14 _
    have a36_15 : 0 ≤ τ7.2.1 36 (τ7.1 15) ∧ τ7.2.1 36 (τ7.1 15) ≤ 20000 := hT.2 36 _
    have av3 : σ.1 3 ≤ τ7.1 3 := ag.1 3 (by decide)
    have av5 : σ.1 5 ≤ τ7.1 5 := ag.1 5 (by decide)
    have av6 : σ.1 6 ≤ τ7.1 6 := ag.1 6 (by decide)
    have a14 := ag_k ag 14 7 1 (by decide) (σ.1 7) (by omega)
    exact ⟨hT, (show 0 ≤ x6 ∧ x6 ≤ 19 from by (first | assumption | omega | (simp only [st_s] <;> omega) | fail)), (show J_ht (τ7.1 3) (τ7.2.1 2) (τ7.2.1 3) (τ7.2.1 5) (τ7.2.1 6) from HT), (show J_mn (τ7.1 3) (τ7.1 5) ((τ7.1 7) + 1) (τ7.2.1 4) from MN), (show J_rks (τ7.1 5) (τ7.1 4) (τ7.2.1 10) (τ7.2.1 11) from RKS), (show J_vs (τ7.1 8) (τ7.1 5) (τ7.2.1 20) from VS), (show J_vs (τ7.1 6) (τ7.1 5) (τ7.2.1 15) from TX), (show J_va (τ7.1 8) 1000 (τ7.2.1 18) (τ7.2.1 20) from VA), (show J_mk (τ7.1 11) (τ7.1 8) (τ7.1 9) (τ7.1 10) (τ7.2.1 25) from MK), (show J_sc (τ7.1 7) (τ7.1 9) (τ7.2.1 13) (τ7.2.1 14) (τ7.2.1 15) (τ7.2.1 16) (τ7.2.1 22) (τ7.2.1 19) from SC), (show J_ff (τ7.1 5) (τ7.1 7) (τ7.2.1 9) (τ7.2.1 13) (τ7.2.1 14) (τ7.2.1 15) from FF), (show ∀ s : Int, τ7.2.1 26 s ≤ (τ7.1 12) from MT), (show J_all (τ7.1 7) (τ7.1 6) (τ7.1 13) (τ7.1 14) (τ7.1 15) (τ7.2.1 13) (τ7.2.1 14) (τ7.2.1 15) (τ7.2.1 16) (τ7.2.1 10) (τ7.2.1 27) (τ7.2.1 28) (τ7.2.1 29) (τ7.2.1 30) (τ7.2.1 31) (τ7.2.1 32) (τ7.2.1 33) (τ7.2.1 34) (τ7.2.1 35) (τ7.2.1 36) (τ7.2.1 37) from by (first | exact CJ | exact c_J_ag CJ_0 hT0 ag (by omega) (by first | exact j_rr0 _ _ | (rw [g10_τ4]; exact j_rr0 _ _) | (rw [g10_τ13]; exact j_rr0 _ _) | (rw [G10]; exact j_rr0 _ _) | exact q5_8 | exact q8_10 | exact q14_4) TX_0 CH (by omega) | fail)), (show J_bp (τ7.2.1 44) (τ7.2.1 45) from BP), (show J_nl (τ7.1 3) (τ7.2.1 2) (τ7.2.1 3) (τ7.2.1 4) from NL), (show x6 = 0 → J_rs (τ7.1 35) (τ7.1 7) (τ7.1 6) (τ7.1 36) (τ7.1 37) (τ7.1 5) (τ7.1 8) (τ7.2.1 14) from by (first | exact fun z => absurd z (by decide) | (intro z; have w := q2_2 z; have rs := p14; unfold J_rs at rs ⊢; rw [show (s_v τ4 35 1).1 35 = 1 from rfl] at *; omega) | (intro z; have w := q2_2 z; have rs := J_rs_0 p14 (by omega); unfold J_rs; rw [g14_τ4, w7_τ4]; omega) | (intro z; have w := q5_9 z; have rs := J_rs_0 p14 (by omega); unfold J_rs; rw [g14_τ7, w7_τ7]; omega) | (intro z; have w := q8_11 z; have rs := J_rs_0 p14 (by omega); unfold J_rs; rw [g14_τ10, w7_τ10]; omega) | (intro z; have rs := J_rs_0 p14 (by omega); unfold J_rs; rw [g14_τ13, w7_τ13]; omega) | (intro z; have w1 := q14_5 z; have w2 := q14_7 z; have w3 := q14_8 z; have w4 := J_rs_4 p14 (by omega); rw [show τ16.1 7 = σ.1 7 from by omega] at w1; unfold J_rs; rw [show τ16.1 7 = σ.1 7 from by omega]; omega) | fail)), (show x6 = 0 → J_uc (τ7.1 35) (τ7.1 36) (τ7.2.1 10 (τ7.2.1 15 (τ7.2.1 14 (τ7.1 7)))) from by (first | exact fun z => absurd z (by decide) | (intro z y; exfalso; omega) | (intro z y y2; exact q14_6 z) | fail)), (show x6 = 0 → J_dj (τ7.1 35) (τ7.1 36) (τ7.2.1 54) from by (first | exact fun z => absurd z (by decide) | (intro z y; exfalso; omega) | (intro z y; exact q11_2 z) | fail)), (show x6 = 0 → J_it (τ7.1 35) (τ7.1 7) (τ7.1 6) (τ7.1 37) (τ7.2.1 14) (τ7.2.1 15) (τ7.2.1 16) (τ7.2.1 19) from by (first | exact fun z => absurd z (by decide) | (intro z y; exfalso; omega) | (intro z y; exact q14_9 z) | fail)), (show x6 = 0 → J_hu (τ7.1 35) (τ7.1 13) (τ7.1 7) from by (first | exact fun z => absurd z (by decide) | exact fun _ => HUs | (intro z; have hu := hux; unfold J_hu at hu ⊢; omega) | fail)), (show x6 = 0 → J_ft (τ7.1 35) (τ7.1 24) (τ7.1 7) (τ7.1 13) (τ7.1 14) (τ7.2.1 13) (τ7.2.1 14) (τ7.2.1 15) (τ7.2.1 16) (τ7.2.1 27) (τ7.2.1 28) (τ7.2.1 29) (τ7.2.1 30) (τ7.2.1 31) (τ7.2.1 32) from by (first | exact fun z => absurd z (by decide) | (intro z y; exfalso; omega) | exact fun _ => FRs | exact fun _ => frx | (intro z y; exact frx (by omega)) | (intro z y; have w := frx (by omega); rw [W7, W13, W14, W24, G13, G14, G15, G16, G27, G28, G29, G30, G31, G32]; exact w) | fail)), (show x6 = 0 → J_ss (τ7.1 35) (τ7.1 24) (τ7.1 21) (τ7.1 23) (τ7.1 22) (τ7.1 27) (τ7.1 26) (τ7.1 25) (τ7.1 16) (τ7.2.1 49) (τ7.2.1 51) from by (first | exact fun z => absurd z (by decide) | (intro z y; exfalso; omega) | exact fun _ => SPs | exact fun _ => spx | (intro z y; exact spx (by omega)) | fail)), (show x6 = 0 → (τ7.1 15) ≤ (τ7.1 16) ∧ τ7.2.1 36 (τ7.1 15) ≤ (τ7.1 16) from by (intro z; first | exact sux | omega)), (show x6 = 0 → (τ7.1 9) ≤ (τ7.1 7) from by (intro z; omega)), (show j_rr ((σ.1 5)) (σ.2.1 10) (τ7.2.1 10) from by (first | exact j_rr0 _ _ | (rw [g10_τ4]; exact j_rr0 _ _) | (rw [g10_τ13]; exact j_rr0 _ _) | (rw [G10]; exact j_rr0 _ _) | exact q5_8 | exact q8_10 | exact q14_4 | fail)), (show j_eq (σ.2.1 36 (σ.1 15)) (σ.2.1 37) (τ7.2.1 37) from CH), (show (τ7.1 12) ≤ (σ.1 12) + 1 from by (first | assumption | omega | (simp only [st_s] <;> omega) | fail)), (show c_Y σ τ7 from by (first | exact c_Y0 _ | exact q8_12 | exact q14_10 | exact c_Y_g W4 G11 G20 G22 G25 | exact c_Y_g (by omega) (by rw [g11_τ4]) (by rw [g20_τ4]) (by rw [g22_τ4]) (by rw [g25_τ4]) | exact c_Y_g (by omega) (by rw [g11_τ7]) (by rw [g20_τ7]) (by rw [g22_τ7]) (by rw [g25_τ7]) | exact c_Y_g (by omega) (by rw [g11_τ13]) (by rw [g20_τ13]) (by rw [g22_τ13]) (by rw [g25_τ13]) | fail)), (show j_nm σ τ7 from by (first | exact j_nm0 _ | exact (show j_nm σ τ4 from q2_6) | exact (show j_nm σ τ7 from q5_11) | exact (show j_nm σ τ10 from q8_14) | exact (show j_nm σ τ13 from j_nm_h hf_τ13 rfl) | exact (show j_nm σ τ16 from j_nm_h hf_τ16 rfl) | fail)), ag⟩
  ·
    have rs3 := J_rs_3 rsx c1
    refine ⟨_, K2_X7_declareVariable hT (show 0 ≤ n1 from by (first | assumption | omega | (simp only [st_s] <;> omega) | fail)) (show 0 ≤ n2 from by (first | assumption | omega | (simp only [st_s] <;> omega) | fail)) (show n1 + n2 ≤ 60000 from by (first | assumption | omega | (simp only [st_s] <;> omega) | fail)) (show ¬ σ.1 66 = 0 from by (first | assumption | omega | (simp only [st_s] <;> omega) | fail)) (show (σ.1 36) ≤ 1000 from by (first | assumption | omega | (simp only [st_s] <;> omega) | fail)) (show (σ.1 38) < (σ.1 5) from by (first | assumption | omega | (simp only [st_s] <;> omega) | fail)) (show J_ht (σ.1 3) (σ.2.1 2) (σ.2.1 3) (σ.2.1 5) (σ.2.1 6) from HT) (show J_mn (σ.1 3) (σ.1 5) ((σ.1 7) + 1) (σ.2.1 4) from MN) (show J_vs (σ.1 8) (σ.1 5) (σ.2.1 20) from VS) (show J_vs (σ.1 6) (σ.1 5) (σ.2.1 15) from TX) (show J_va (σ.1 8) 1000 (σ.2.1 18) (σ.2.1 20) from VA) (show J_mk (σ.1 11) (σ.1 8) (σ.1 9) (σ.1 10) (σ.2.1 25) from MK) (show J_rks (σ.1 5) (σ.1 4) (σ.2.1 10) (σ.2.1 11) from RKS) (show J_ff (σ.1 5) (σ.1 7) (σ.2.1 9) (σ.2.1 13) (σ.2.1 14) (σ.2.1 15) from FF) (show J_nl (σ.1 3) (σ.2.1 2) (σ.2.1 3) (σ.2.1 4) from NL) (show (σ.1 38) = -1 → (σ.1 39) = -1 → ∀ n : Int, 0 ≤ n → n < (σ.1 3) → ¬ c_eq (σ.2.1 2) (σ.2.1 3) n (σ.2.1 0) n1 n2 from by (first | assumption | omega | (simp only [st_s] <;> omega) | fail)), ?_⟩
    intro x9 τ10 r_x9 hn_τ10 hf_τ10 hq
    obtain ⟨hT, q8_1, q8_2, q8_3, q8_4, q8_5, q8_6, q8_7, q8_8, q8_9, q8_10, q8_11, q8_12, q8_13, q8_14, q8_15⟩ := hq
    replace q8_1 : 0 ≤ x9 ∧ x9 ≤ 19 := q8_1
    replace q8_2 : J_ht (τ10.1 3) (τ10.2.1 2) (τ10.2.1 3) (τ10.2.1 5) (τ10.2.1 6) := q8_2
    replace q8_3 : J_mn (τ10.1 3) (τ10.1 5) ((τ10.1 7) + 1) (τ10.2.1 4) := q8_3
    replace q8_4 : J_vs (τ10.1 8) (τ10.1 5) (τ10.2.1 20) := q8_4
    replace q8_5 : J_vs (τ10.1 6) (τ10.1 5) (τ10.2.1 15) := q8_5
    replace q8_6 : J_va (τ10.1 8) 1000 (τ10.2.1 18) (τ10.2.1 20) := q8_6
    replace q8_7 : J_mk (τ10.1 11) (τ10.1 8) (τ10.1 9) (τ10.1 10) (τ10.2.1 25) := q8_7
    replace q8_8 : J_rks (τ10.1 5) (τ10.1 4) (τ10.2.1 10) (τ10.2.1 11) := q8_8
    replace q8_9 : J_ff (τ10.1 5) (τ10.1 7) (τ10.2.1 9) (τ10.2.1 13) (τ10.2.1 14) (τ10.2.1 15) := q8_9
    replace q8_10 : j_rr ((σ.1 5)) (σ.2.1 10) (τ10.2.1 10) := q8_10
    replace q8_11 : x9 = 0 → (τ10.1 36) = (σ.1 36) + 1 ∧ (τ10.1 8) = (σ.1 8) + 1 := q8_11
    replace q8_12 : c_Y σ τ10 := q8_12
    replace q8_13 : J_nl (τ10.1 3) (τ10.2.1 2) (τ10.2.1 3) (τ10.2.1 4) := q8_13
    replace q8_14 : j_nm σ τ10 := q8_14
    replace q8_15 : c_ag σ τ10 := q8_15
    replace ag : c_ag σ τ10 := ag_t ag q8_15 rfl
    have w4_τ10 : τ10.1 4 = σ.1 4 := hf_τ10.1 4 (by decide)
    have w6_τ10 : τ10.1 6 = σ.1 6 := hf_τ10.1 6 (by decide)
    have w7_τ10 : τ10.1 7 = σ.1 7 := hf_τ10.1 7 (by decide)
    have w9_τ10 : τ10.1 9 = σ.1 9 := hf_τ10.1 9 (by decide)
    have w10_τ10 : τ10.1 10 = σ.1 10 := hf_τ10.1 10 (by decide)
    have w11_τ10 : τ10.1 11 = σ.1 11 := hf_τ10.1 11 (by decide)
    have w12_τ10 : τ10.1 12 = σ.1 12 := hf_τ10.1 12 (by decide)
    have w13_τ10 : τ10.1 13 = σ.1 13 := hf_τ10.1 13 (by decide)
    have w14_τ10 : τ10.1 14 = σ.1 14 := hf_τ10.1 14 (by decide)
    have w15_τ10 : τ10.1 15 = σ.1 15 := hf_τ10.1 15 (by decide)
    have w16_τ10 : τ10.1 16 = σ.1 16 := hf_τ10.1 16 (by decide)
    have w21_τ10 : τ10.1 21 = σ.1 21 := hf_τ10.1 21 (by decide)
    have w22_τ10 : τ10.1 22 = σ.1 22 := hf_τ10.1 22 (by decide)
    have w23_τ10 : τ10.1 23 = σ.1 23 := hf_τ10.1 23 (by decide)
    have w24_τ10 : τ10.1 24 = σ.1 24 := hf_τ10.1 24 (by decide)
    have w25_τ10 : τ10.1 25 = σ.1 25 := hf_τ10.1 25 (by decide)
    have w26_τ10 : τ10.1 26 = σ.1 26 := hf_τ10.1 26 (by decide)
    have w27_τ10 : τ10.1 27 = σ.1 27 := hf_τ10.1 27 (by decide)
    have w35_τ10 : τ10.1 35 = σ.1 35 := hf_τ10.1 35 (by decide)
    have w37_τ10 : τ10.1 37 = σ.1 37 := hf_τ10.1 37 (by decide)
    have w38_τ10 : τ10.1 38 = σ.1 38 := hf_τ10.1 38 (by decide)
    have w39_τ10 : τ10.1 39 = σ.1 39 := hf_τ10.1 39 (by decide)
    have w66_τ10 : τ10.1 66 = σ.1 66 := hf_τ10.1 66 (by decide)
    have g11_τ10 : τ10.2.1 11 = σ.2.1 11 := hf_τ10.2.1 11 (by decide)
    have g13_τ10 : τ10.2.1 13 = σ.2.1 13 := hf_τ10.2.1 13 (by decide)
    have g14_τ10 : τ10.2.1 14 = σ.2.1 14 := hf_τ10.2.1 14 (by decide)
    have g15_τ10 : τ10.2.1 15 = σ.2.1 15 := hf_τ10.2.1 15 (by decide)
    have g16_τ10 : τ10.2.1 16 = σ.2.1 16 := hf_τ10.2.1 16 (by decide)
    have g19_τ10 : τ10.2.1 19 = σ.2.1 19 := hf_τ10.2.1 19 (by decide)
    have g22_τ10 : τ10.2.1 22 = σ.2.1 22 := hf_τ10.2.1 22 (by decide)
    have g25_τ10 : τ10.2.1 25 = σ.2.1 25 := hf_τ10.2.1 25 (by decide)
    have g26_τ10 : τ10.2.1 26 = σ.2.1 26 := hf_τ10.2.1 26 (by decide)
    have g27_τ10 : τ10.2.1 27 = σ.2.1 27 := hf_τ10.2.1 27 (by decide)
    have g28_τ10 : τ10.2.1 28 = σ.2.1 28 := hf_τ10.2.1 28 (by decide)
    have g29_τ10 : τ10.2.1 29 = σ.2.1 29 := hf_τ10.2.1 29 (by decide)
    have g30_τ10 : τ10.2.1 30 = σ.2.1 30 := hf_τ10.2.1 30 (by decide)
    have g31_τ10 : τ10.2.1 31 = σ.2.1 31 := hf_τ10.2.1 31 (by decide)
    have g32_τ10 : τ10.2.1 32 = σ.2.1 32 := hf_τ10.2.1 32 (by decide)
    have g33_τ10 : τ10.2.1 33 = σ.2.1 33 := hf_τ10.2.1 33 (by decide)
    have g34_τ10 : τ10.2.1 34 = σ.2.1 34 := hf_τ10.2.1 34 (by decide)
    have g35_τ10 : τ10.2.1 35 = σ.2.1 35 := hf_τ10.2.1 35 (by decide)
    have g36_τ10 : τ10.2.1 36 = σ.2.1 36 := hf_τ10.2.1 36 (by decide)
    have g37_τ10 : τ10.2.1 37 = σ.2.1 37 := hf_τ10.2.1 37 (by decide)
    have g44_τ10 : τ10.2.1 44 = σ.2.1 44 := hf_τ10.2.1 44 (by decide)
    have g45_τ10 : τ10.2.1 45 = σ.2.1 45 := hf_τ10.2.1 45 (by decide)
    have g49_τ10 : τ10.2.1 49 = σ.2.1 49 := hf_τ10.2.1 49 (by decide)
    have g51_τ10 : τ10.2.1 51 = σ.2.1 51 := hf_τ10.2.1 51 (by decide)
    have g54_τ10 : τ10.2.1 54 = σ.2.1 54 := hf_τ10.2.1 54 (by decide)
    have W7 : τ10.1 7 = σ.1 7 := by first | exact w7_τ10.trans W7 | omega
    have W9 : τ10.1 9 = σ.1 9 := by first | exact w9_τ10.trans W9 | omega
    have W11 : τ10.1 11 = σ.1 11 := by first | exact w11_τ10.trans W11 | omega
    have W12 : τ10.1 12 = σ.1 12 := by first | exact w12_τ10.trans W12 | omega
    have W13 : τ10.1 13 = σ.1 13 := by first | exact w13_τ10.trans W13 | omega
    have W14 : τ10.1 14 = σ.1 14 := by first | exact w14_τ10.trans W14 | omega
    have W15 : τ10.1 15 = σ.1 15 := by first | exact w15_τ10.trans W15 | omega
    have W16 : τ10.1 16 = σ.1 16 := by first | exact w16_τ10.trans W16 | omega
    have W21 : τ10.1 21 = σ.1 21 := by first | exact w21_τ10.trans W21 | omega
    have W22 : τ10.1 22 = σ.1 22 := by first | exact w22_τ10.trans W22 | omega
    have W23 : τ10.1 23 = σ.1 23 := by first | exact w23_τ10.trans W23 | omega
    have W24 : τ10.1 24 = σ.1 24 := by first | exact w24_τ10.trans W24 | omega
    have W25 : τ10.1 25 = σ.1 25 := by first | exact w25_τ10.trans W25 | omega
    have W26 : τ10.1 26 = σ.1 26 := by first | exact w26_τ10.trans W26 | omega
    have W27 : τ10.1 27 = σ.1 27 := by first | exact w27_τ10.trans W27 | omega
    have W37 : τ10.1 37 = σ.1 37 := by first | exact w37_τ10.trans W37 | omega
    have W38 : τ10.1 38 = σ.1 38 := by first | exact w38_τ10.trans W38 | omega
    have W39 : τ10.1 39 = σ.1 39 := by first | exact w39_τ10.trans W39 | omega
    have W66 : τ10.1 66 = σ.1 66 := by first | exact w66_τ10.trans W66 | omega
    have G13 : τ10.2.1 13 = σ.2.1 13 := (g13_τ10).trans G13
    have G19 : τ10.2.1 19 = σ.2.1 19 := (g19_τ10).trans G19
    have G22 : τ10.2.1 22 = σ.2.1 22 := (g22_τ10).trans G22
    have G25 : τ10.2.1 25 = σ.2.1 25 := (g25_τ10).trans G25
    have G26 : τ10.2.1 26 = σ.2.1 26 := (g26_τ10).trans G26
    have G27 : τ10.2.1 27 = σ.2.1 27 := (g27_τ10).trans G27
    have G28 : τ10.2.1 28 = σ.2.1 28 := (g28_τ10).trans G28
    have G29 : τ10.2.1 29 = σ.2.1 29 := (g29_τ10).trans G29
    have G30 : τ10.2.1 30 = σ.2.1 30 := (g30_τ10).trans G30
    have G31 : τ10.2.1 31 = σ.2.1 31 := (g31_τ10).trans G31
    have G32 : τ10.2.1 32 = σ.2.1 32 := (g32_τ10).trans G32
    have G33 : τ10.2.1 33 = σ.2.1 33 := (g33_τ10).trans G33
    have G34 : τ10.2.1 34 = σ.2.1 34 := (g34_τ10).trans G34
    have G35 : τ10.2.1 35 = σ.2.1 35 := (g35_τ10).trans G35
    have G36 : τ10.2.1 36 = σ.2.1 36 := (g36_τ10).trans G36
    have G37 : τ10.2.1 37 = σ.2.1 37 := (g37_τ10).trans G37
    have G44 : τ10.2.1 44 = σ.2.1 44 := (g44_τ10).trans G44
    have G45 : τ10.2.1 45 = σ.2.1 45 := (g45_τ10).trans G45
    have G49 : τ10.2.1 49 = σ.2.1 49 := (g49_τ10).trans G49
    have G51 : τ10.2.1 51 = σ.2.1 51 := (g51_τ10).trans G51
    have y14_7_τ10 : τ10.2.1 14 (τ10.1 7) = (σ.2.1 14) (σ.1 7) := by rw [g14_τ10, w7_τ10]
    have y36_15_τ10 : τ10.2.1 36 (τ10.1 15) = (σ.2.1 36) (σ.1 15) := by rw [g36_τ10, w15_τ10]
    have HT : J_ht (τ10.1 3) (τ10.2.1 2) (τ10.2.1 3) (τ10.2.1 5) (τ10.2.1 6) := q8_2
    have NL : J_nl (τ10.1 3) (τ10.2.1 2) (τ10.2.1 3) (τ10.2.1 4) := q8_13
    have MN : J_mn (τ10.1 3) (τ10.1 5) ((τ10.1 7) + 1) (τ10.2.1 4) := q8_3
    have VA : J_va (τ10.1 8) 1000 (τ10.2.1 18) (τ10.2.1 20) := q8_6
    have SC : J_sc (τ10.1 7) (τ10.1 9) (τ10.2.1 13) (τ10.2.1 14) (τ10.2.1 15) (τ10.2.1 16) (τ10.2.1 22) (τ10.2.1 19) := by rw [show (J_sc (τ10.1 7) (τ10.1 9) (τ10.2.1 13) (τ10.2.1 14) (τ10.2.1 15) (τ10.2.1 16) (τ10.2.1 22) (τ10.2.1 19)) = (J_sc (σ.1 7) (σ.1 9) (σ.2.1 13) (σ.2.1 14) (σ.2.1 15) (σ.2.1 16) (σ.2.1 22) (σ.2.1 19)) from by rw [w7_τ10, w9_τ10, g13_τ10, g14_τ10, g15_τ10, g16_τ10, g19_τ10, g22_τ10]]; exact SC
    have MK : J_mk (τ10.1 11) (τ10.1 8) (τ10.1 9) (τ10.1 10) (τ10.2.1 25) := q8_7
    have FF : J_ff (τ10.1 5) (τ10.1 7) (τ10.2.1 9) (τ10.2.1 13) (τ10.2.1 14) (τ10.2.1 15) := q8_9
    have MT : ∀ s : Int, τ10.2.1 26 s ≤ (τ10.1 12) := by rw [show (∀ s : Int, τ10.2.1 26 s ≤ (τ10.1 12)) = (∀ s : Int, σ.2.1 26 s ≤ (σ.1 12)) from by rw [w12_τ10, g26_τ10]]; exact MT
    have VS : J_vs (τ10.1 8) (τ10.1 5) (τ10.2.1 20) := q8_4
    have TX : J_vs (τ10.1 6) (τ10.1 5) (τ10.2.1 15) := q8_5
    have RKS : J_rks (τ10.1 5) (τ10.1 4) (τ10.2.1 10) (τ10.2.1 11) := q8_8
    have BP : J_bp (τ10.2.1 44) (τ10.2.1 45) := by rw [show (J_bp (τ10.2.1 44) (τ10.2.1 45)) = (J_bp (σ.2.1 44) (σ.2.1 45)) from by rw [g44_τ10, g45_τ10]]; exact BP
    have CH : j_eq (σ.2.1 36 (σ.1 15)) (σ.2.1 37) (τ10.2.1 37) := by rw [show (j_eq (σ.2.1 36 (σ.1 15)) (σ.2.1 37) (τ10.2.1 37)) = (j_eq (σ.2.1 36 (σ.1 15)) (σ.2.1 37) (σ.2.1 37)) from by rw [g37_τ10]]; exact CH
    have IPs : J_it (τ10.1 35) (τ10.1 7) (τ10.1 6) (τ10.1 37) (τ10.2.1 14) (τ10.2.1 15) (τ10.2.1 16) (τ10.2.1 19) := by rw [show (J_it (τ10.1 35) (τ10.1 7) (τ10.1 6) (τ10.1 37) (τ10.2.1 14) (τ10.2.1 15) (τ10.2.1 16) (τ10.2.1 19)) = (J_it (σ.1 35) (σ.1 7) (σ.1 6) (σ.1 37) (σ.2.1 14) (σ.2.1 15) (σ.2.1 16) (σ.2.1 19)) from by rw [w6_τ10, w7_τ10, w35_τ10, w37_τ10, g14_τ10, g15_τ10, g16_τ10, g19_τ10]]; exact IPs
    have HUs : J_hu (τ10.1 35) (τ10.1 13) (τ10.1 7) := by rw [show (J_hu (τ10.1 35) (τ10.1 13) (τ10.1 7)) = (J_hu (σ.1 35) (σ.1 13) (σ.1 7)) from by rw [w7_τ10, w13_τ10, w35_τ10]]; exact HUs
    have FRs : J_ft (τ10.1 35) (τ10.1 24) (τ10.1 7) (τ10.1 13) (τ10.1 14) (τ10.2.1 13) (τ10.2.1 14) (τ10.2.1 15) (τ10.2.1 16) (τ10.2.1 27) (τ10.2.1 28) (τ10.2.1 29) (τ10.2.1 30) (τ10.2.1 31) (τ10.2.1 32) := by rw [show (J_ft (τ10.1 35) (τ10.1 24) (τ10.1 7) (τ10.1 13) (τ10.1 14) (τ10.2.1 13) (τ10.2.1 14) (τ10.2.1 15) (τ10.2.1 16) (τ10.2.1 27) (τ10.2.1 28) (τ10.2.1 29) (τ10.2.1 30) (τ10.2.1 31) (τ10.2.1 32)) = (J_ft (σ.1 35) (σ.1 24) (σ.1 7) (σ.1 13) (σ.1 14) (σ.2.1 13) (σ.2.1 14) (σ.2.1 15) (σ.2.1 16) (σ.2.1 27) (σ.2.1 28) (σ.2.1 29) (σ.2.1 30) (σ.2.1 31) (σ.2.1 32)) from by rw [w7_τ10, w13_τ10, w14_τ10, w24_τ10, w35_τ10, g13_τ10, g14_τ10, g15_τ10, g16_τ10, g27_τ10, g28_τ10, g29_τ10, g30_τ10, g31_τ10, g32_τ10]]; exact FRs
    have SPs : J_ss (τ10.1 35) (τ10.1 24) (τ10.1 21) (τ10.1 23) (τ10.1 22) (τ10.1 27) (τ10.1 26) (τ10.1 25) (τ10.1 16) (τ10.2.1 49) (τ10.2.1 51) := by rw [show (J_ss (τ10.1 35) (τ10.1 24) (τ10.1 21) (τ10.1 23) (τ10.1 22) (τ10.1 27) (τ10.1 26) (τ10.1 25) (τ10.1 16) (τ10.2.1 49) (τ10.2.1 51)) = (J_ss (σ.1 35) (σ.1 24) (σ.1 21) (σ.1 23) (σ.1 22) (σ.1 27) (σ.1 26) (σ.1 25) (σ.1 16) (σ.2.1 49) (σ.2.1 51)) from by rw [w16_τ10, w21_τ10, w22_τ10, w23_τ10, w24_τ10, w25_τ10, w26_τ10, w27_τ10, w35_τ10, g49_τ10, g51_τ10]]; exact SPs
    have A2 : ∀ j, 0 ≤ τ10.2.1 2 j ∧ τ10.2.1 2 j ≤ 65535 := fun j => hT.2 2 j
    have A3 : ∀ j, 0 ≤ τ10.2.1 3 j ∧ τ10.2.1 3 j ≤ 30000 := fun j => hT.2 3 j
    have A4 : ∀ j, (-1000) ≤ τ10.2.1 4 j ∧ τ10.2.1 4 j ≤ 1499 := fun j => hT.2 4 j
    have A5 : ∀ j, 0 ≤ τ10.2.1 5 j ∧ τ10.2.1 5 j ≤ 2500 := fun j => hT.2 5 j
    have A6 : ∀ j, 0 ≤ τ10.2.1 6 j ∧ τ10.2.1 6 j ≤ 2500 := fun j => hT.2 6 j
    have A9 : ∀ j, (-1) ≤ τ10.2.1 9 j ∧ τ10.2.1 9 j ≤ 1499 := fun j => hT.2 9 j
    have A10 : ∀ j, (-1) ≤ τ10.2.1 10 j ∧ τ10.2.1 10 j ≤ 99 := fun j => hT.2 10 j
    have A11 : ∀ j, 0 ≤ τ10.2.1 11 j ∧ τ10.2.1 11 j ≤ 999 := fun j => hT.2 11 j
    have A13 : ∀ j, 0 ≤ τ10.2.1 13 j ∧ τ10.2.1 13 j ≤ 4 := fun j => hT.2 13 j
    have A14 : ∀ j, 0 ≤ τ10.2.1 14 j ∧ τ10.2.1 14 j ≤ 30000 := fun j => hT.2 14 j
    have A15 : ∀ j, 0 ≤ τ10.2.1 15 j ∧ τ10.2.1 15 j ≤ 999 := fun j => hT.2 15 j
    have A16 : ∀ j, (-1) ≤ τ10.2.1 16 j ∧ τ10.2.1 16 j ≤ 1499 := fun j => hT.2 16 j
    have A18 : ∀ j, 0 ≤ τ10.2.1 18 j ∧ τ10.2.1 18 j ≤ 1 := fun j => hT.2 18 j
    have A19 : ∀ j, (-1) ≤ τ10.2.1 19 j ∧ τ10.2.1 19 j ≤ 1499 := fun j => hT.2 19 j
    have A20 : ∀ j, 0 ≤ τ10.2.1 20 j ∧ τ10.2.1 20 j ≤ 999 := fun j => hT.2 20 j
    have A22 : ∀ j, 0 ≤ τ10.2.1 22 j ∧ τ10.2.1 22 j ≤ 1499 := fun j => hT.2 22 j
    have A26 : ∀ j, (-2147483648) ≤ τ10.2.1 26 j ∧ τ10.2.1 26 j ≤ 2147483647 := fun j => hT.2 26 j
    have A27 : ∀ j, 0 ≤ τ10.2.1 27 j ∧ τ10.2.1 27 j ≤ 90000 := fun j => hT.2 27 j
    have A28 : ∀ j, 0 ≤ τ10.2.1 28 j ∧ τ10.2.1 28 j ≤ 60 := fun j => hT.2 28 j
    have A29 : ∀ j, 0 ≤ τ10.2.1 29 j ∧ τ10.2.1 29 j ≤ 1499 := fun j => hT.2 29 j
    have A30 : ∀ j, 0 ≤ τ10.2.1 30 j ∧ τ10.2.1 30 j ≤ 20000 := fun j => hT.2 30 j
    have A31 : ∀ j, 0 ≤ τ10.2.1 31 j ∧ τ10.2.1 31 j ≤ 20000 := fun j => hT.2 31 j
    have A32 : ∀ j, 0 ≤ τ10.2.1 32 j ∧ τ10.2.1 32 j ≤ 999999 := fun j => hT.2 32 j
    have A33 : ∀ j, 0 ≤ τ10.2.1 33 j ∧ τ10.2.1 33 j ≤ 20000 := fun j => hT.2 33 j
    have A34 : ∀ j, 0 ≤ τ10.2.1 34 j ∧ τ10.2.1 34 j ≤ 20000 := fun j => hT.2 34 j
    have A35 : ∀ j, 0 ≤ τ10.2.1 35 j ∧ τ10.2.1 35 j ≤ 1499 := fun j => hT.2 35 j
    have A36 : ∀ j, 0 ≤ τ10.2.1 36 j ∧ τ10.2.1 36 j ≤ 20000 := fun j => hT.2 36 j
    have A37 : ∀ j, 0 ≤ τ10.2.1 37 j ∧ τ10.2.1 37 j ≤ 19999 := fun j => hT.2 37 j
    have A44 : ∀ j, 0 ≤ τ10.2.1 44 j ∧ τ10.2.1 44 j ≤ 42000 := fun j => hT.2 44 j
    have A45 : ∀ j, 0 ≤ τ10.2.1 45 j ∧ τ10.2.1 45 j ≤ 1000 := fun j => hT.2 45 j
    have A49 : ∀ j, (-300) ≤ τ10.2.1 49 j ∧ τ10.2.1 49 j ≤ 67035 := fun j => hT.2 49 j
    have A51 : ∀ j, 0 ≤ τ10.2.1 51 j ∧ τ10.2.1 51 j ≤ 1499 := fun j => hT.2 51 j
    have A54 : ∀ j, 0 ≤ τ10.2.1 54 j ∧ τ10.2.1 54 j ≤ 999 := fun j => hT.2 54 j
    have v3 : 0 ≤ τ10.1 3 ∧ τ10.1 3 ≤ 2500 := hT.1 3
    have v4 : 0 ≤ τ10.1 4 ∧ τ10.1 4 ≤ 100 := hT.1 4
    have v5 : 0 ≤ τ10.1 5 ∧ τ10.1 5 ≤ 1000 := hT.1 5
    have v6 : 0 ≤ τ10.1 6 ∧ τ10.1 6 ≤ 30000 := hT.1 6
    have v7 : 0 ≤ τ10.1 7 ∧ τ10.1 7 ≤ 1500 := hT.1 7
    have v8 : 0 ≤ τ10.1 8 ∧ τ10.1 8 ≤ 1000 := hT.1 8
    have v9 : 0 ≤ τ10.1 9 ∧ τ10.1 9 ≤ 1500 := hT.1 9
    have v10 : 0 ≤ τ10.1 10 ∧ τ10.1 10 ≤ 1000 := hT.1 10
    have v11 : 0 ≤ τ10.1 11 ∧ τ10.1 11 ≤ 50 := hT.1 11
    have v12 : (-2147483648) ≤ τ10.1 12 ∧ τ10.1 12 ≤ 2147483647 := hT.1 12
    have v13 : 0 ≤ τ10.1 13 ∧ τ10.1 13 ≤ 90000 := hT.1 13
    have v14 : 0 ≤ τ10.1 14 ∧ τ10.1 14 ≤ 20000 := hT.1 14
    have v15 : 0 ≤ τ10.1 15 ∧ τ10.1 15 ≤ 20000 := hT.1 15
    have v16 : 0 ≤ τ10.1 16 ∧ τ10.1 16 ≤ 20000 := hT.1 16
    have v21 : 0 ≤ τ10.1 21 ∧ τ10.1 21 ≤ 20000 := hT.1 21
    have v22 : 0 ≤ τ10.1 22 ∧ τ10.1 22 ≤ 300 := hT.1 22
    have v23 : 0 ≤ τ10.1 23 ∧ τ10.1 23 ≤ 300 := hT.1 23
    have v24 : 0 ≤ τ10.1 24 ∧ τ10.1 24 ≤ 1499 := hT.1 24
    have v25 : 0 ≤ τ10.1 25 ∧ τ10.1 25 ≤ 3 := hT.1 25
    have v26 : 0 ≤ τ10.1 26 ∧ τ10.1 26 ≤ 5000010 := hT.1 26
    have v27 : 0 ≤ τ10.1 27 ∧ τ10.1 27 ≤ 1 := hT.1 27
    have v35 : 0 ≤ τ10.1 35 ∧ τ10.1 35 ≤ 7 := hT.1 35
    have v36 : 0 ≤ τ10.1 36 ∧ τ10.1 36 ≤ 1001 := hT.1 36
    have v37 : 0 ≤ τ10.1 37 ∧ τ10.1 37 ≤ 4 := hT.1 37
    have v38 : (-1) ≤ τ10.1 38 ∧ τ10.1 38 ≤ 999 := hT.1 38
    have v39 : (-1) ≤ τ10.1 39 ∧ τ10.1 39 ≤ 1499 := hT.1 39
    have v66 : 0 ≤ τ10.1 66 ∧ τ10.1 66 ≤ 1 := hT.1 66
    have a14_7 : 0 ≤ τ10.2.1 14 (τ10.1 7) ∧ τ10.2.1 14 (τ10.1 7) ≤ 30000 := hT.2 14 _
    have a36_15 : 0 ≤ τ10.2.1 36 (τ10.1 15) ∧ τ10.2.1 36 (τ10.1 15) ≤ 20000 := hT.2 36 _
    have av3 : σ.1 3 ≤ τ10.1 3 := ag.1 3 (by decide)
    have av5 : σ.1 5 ≤ τ10.1 5 := ag.1 5 (by decide)
    have av6 : σ.1 6 ≤ τ10.1 6 := ag.1 6 (by decide)
    have a14 := ag_k ag 14 7 1 (by decide) (σ.1 7) (by omega)
    exact ⟨hT, (show 0 ≤ x9 ∧ x9 ≤ 19 from by (first | assumption | omega | (simp only [st_s] <;> omega) | fail)), (show J_ht (τ10.1 3) (τ10.2.1 2) (τ10.2.1 3) (τ10.2.1 5) (τ10.2.1 6) from HT), (show J_mn (τ10.1 3) (τ10.1 5) ((τ10.1 7) + 1) (τ10.2.1 4) from MN), (show J_rks (τ10.1 5) (τ10.1 4) (τ10.2.1 10) (τ10.2.1 11) from RKS), (show J_vs (τ10.1 8) (τ10.1 5) (τ10.2.1 20) from VS), (show J_vs (τ10.1 6) (τ10.1 5) (τ10.2.1 15) from TX), (show J_va (τ10.1 8) 1000 (τ10.2.1 18) (τ10.2.1 20) from VA), (show J_mk (τ10.1 11) (τ10.1 8) (τ10.1 9) (τ10.1 10) (τ10.2.1 25) from MK), (show J_sc (τ10.1 7) (τ10.1 9) (τ10.2.1 13) (τ10.2.1 14) (τ10.2.1 15) (τ10.2.1 16) (τ10.2.1 22) (τ10.2.1 19) from SC), (show J_ff (τ10.1 5) (τ10.1 7) (τ10.2.1 9) (τ10.2.1 13) (τ10.2.1 14) (τ10.2.1 15) from FF), (show ∀ s : Int, τ10.2.1 26 s ≤ (τ10.1 12) from MT), (show J_all (τ10.1 7) (τ10.1 6) (τ10.1 13) (τ10.1 14) (τ10.1 15) (τ10.2.1 13) (τ10.2.1 14) (τ10.2.1 15) (τ10.2.1 16) (τ10.2.1 10) (τ10.2.1 27) (τ10.2.1 28) (τ10.2.1 29) (τ10.2.1 30) (τ10.2.1 31) (τ10.2.1 32) (τ10.2.1 33) (τ10.2.1 34) (τ10.2.1 35) (τ10.2.1 36) (τ10.2.1 37) from by (first | exact CJ | exact c_J_ag CJ_0 hT0 ag (by omega) (by first | exact j_rr0 _ _ | (rw [g10_τ4]; exact j_rr0 _ _) | (rw [g10_τ13]; exact j_rr0 _ _) | (rw [G10]; exact j_rr0 _ _) | exact q5_8 | exact q8_10 | exact q14_4) TX_0 CH (by omega) | fail)), (show J_bp (τ10.2.1 44) (τ10.2.1 45) from BP), (show J_nl (τ10.1 3) (τ10.2.1 2) (τ10.2.1 3) (τ10.2.1 4) from NL), (show x9 = 0 → J_rs (τ10.1 35) (τ10.1 7) (τ10.1 6) (τ10.1 36) (τ10.1 37) (τ10.1 5) (τ10.1 8) (τ10.2.1 14) from by (first | exact fun z => absurd z (by decide) | (intro z; have w := q2_2 z; have rs := p14; unfold J_rs at rs ⊢; rw [show (s_v τ4 35 1).1 35 = 1 from rfl] at *; omega) | (intro z; have w := q2_2 z; have rs := J_rs_0 p14 (by omega); unfold J_rs; rw [g14_τ4, w7_τ4]; omega) | (intro z; have w := q5_9 z; have rs := J_rs_0 p14 (by omega); unfold J_rs; rw [g14_τ7, w7_τ7]; omega) | (intro z; have w := q8_11 z; have rs := J_rs_0 p14 (by omega); unfold J_rs; rw [g14_τ10, w7_τ10]; omega) | (intro z; have rs := J_rs_0 p14 (by omega); unfold J_rs; rw [g14_τ13, w7_τ13]; omega) | (intro z; have w1 := q14_5 z; have w2 := q14_7 z; have w3 := q14_8 z; have w4 := J_rs_4 p14 (by omega); rw [show τ16.1 7 = σ.1 7 from by omega] at w1; unfold J_rs; rw [show τ16.1 7 = σ.1 7 from by omega]; omega) | fail)), (show x9 = 0 → J_uc (τ10.1 35) (τ10.1 36) (τ10.2.1 10 (τ10.2.1 15 (τ10.2.1 14 (τ10.1 7)))) from by (first | exact fun z => absurd z (by decide) | (intro z y; exfalso; omega) | (intro z y y2; exact q14_6 z) | fail)), (show x9 = 0 → J_dj (τ10.1 35) (τ10.1 36) (τ10.2.1 54) from by (first | exact fun z => absurd z (by decide) | (intro z y; exfalso; omega) | (intro z y; exact q11_2 z) | fail)), (show x9 = 0 → J_it (τ10.1 35) (τ10.1 7) (τ10.1 6) (τ10.1 37) (τ10.2.1 14) (τ10.2.1 15) (τ10.2.1 16) (τ10.2.1 19) from by (first | exact fun z => absurd z (by decide) | (intro z y; exfalso; omega) | (intro z y; exact q14_9 z) | fail)), (show x9 = 0 → J_hu (τ10.1 35) (τ10.1 13) (τ10.1 7) from by (first | exact fun z => absurd z (by decide) | exact fun _ => HUs | (intro z; have hu := hux; unfold J_hu at hu ⊢; omega) | fail)), (show x9 = 0 → J_ft (τ10.1 35) (τ10.1 24) (τ10.1 7) (τ10.1 13) (τ10.1 14) (τ10.2.1 13) (τ10.2.1 14) (τ10.2.1 15) (τ10.2.1 16) (τ10.2.1 27) (τ10.2.1 28) (τ10.2.1 29) (τ10.2.1 30) (τ10.2.1 31) (τ10.2.1 32) from by (first | exact fun z => absurd z (by decide) | (intro z y; exfalso; omega) | exact fun _ => FRs | exact fun _ => frx | (intro z y; exact frx (by omega)) | (intro z y; have w := frx (by omega); rw [W7, W13, W14, W24, G13, G14, G15, G16, G27, G28, G29, G30, G31, G32]; exact w) | fail)), (show x9 = 0 → J_ss (τ10.1 35) (τ10.1 24) (τ10.1 21) (τ10.1 23) (τ10.1 22) (τ10.1 27) (τ10.1 26) (τ10.1 25) (τ10.1 16) (τ10.2.1 49) (τ10.2.1 51) from by (first | exact fun z => absurd z (by decide) | (intro z y; exfalso; omega) | exact fun _ => SPs | exact fun _ => spx | (intro z y; exact spx (by omega)) | fail)), (show x9 = 0 → (τ10.1 15) ≤ (τ10.1 16) ∧ τ10.2.1 36 (τ10.1 15) ≤ (τ10.1 16) from by (intro z; first | exact sux | omega)), (show x9 = 0 → (τ10.1 9) ≤ (τ10.1 7) from by (intro z; omega)), (show j_rr ((σ.1 5)) (σ.2.1 10) (τ10.2.1 10) from by (first | exact j_rr0 _ _ | (rw [g10_τ4]; exact j_rr0 _ _) | (rw [g10_τ13]; exact j_rr0 _ _) | (rw [G10]; exact j_rr0 _ _) | exact q5_8 | exact q8_10 | exact q14_4 | fail)), (show j_eq (σ.2.1 36 (σ.1 15)) (σ.2.1 37) (τ10.2.1 37) from CH), (show (τ10.1 12) ≤ (σ.1 12) + 1 from by (first | assumption | omega | (simp only [st_s] <;> omega) | fail)), (show c_Y σ τ10 from by (first | exact c_Y0 _ | exact q8_12 | exact q14_10 | exact c_Y_g W4 G11 G20 G22 G25 | exact c_Y_g (by omega) (by rw [g11_τ4]) (by rw [g20_τ4]) (by rw [g22_τ4]) (by rw [g25_τ4]) | exact c_Y_g (by omega) (by rw [g11_τ7]) (by rw [g20_τ7]) (by rw [g22_τ7]) (by rw [g25_τ7]) | exact c_Y_g (by omega) (by rw [g11_τ13]) (by rw [g20_τ13]) (by rw [g22_τ13]) (by rw [g25_τ13]) | fail)), (show j_nm σ τ10 from by (first | exact j_nm0 _ | exact (show j_nm σ τ4 from q2_6) | exact (show j_nm σ τ7 from q5_11) | exact (show j_nm σ τ10 from q8_14) | exact (show j_nm σ τ13 from j_nm_h hf_τ13 rfl) | exact (show j_nm σ τ16 from j_nm_h hf_τ16 rfl) | fail)), ag⟩
  ·
    have djj := dj c1
    refine ⟨_, K2_X7_takeApart hT (show -1 ≤ (σ.1 38) from by (first | assumption | omega | (simp only [st_s] <;> omega) | fail)) (show (σ.1 38) < 1000 from by (first | assumption | omega | (simp only [st_s] <;> omega) | fail)) (show j_in (σ.1 36) 1000 (σ.2.1 54) from by (first | assumption | omega | (simp only [st_s] <;> omega) | fail)) (show J_mk (σ.1 11) (σ.1 8) (σ.1 9) (σ.1 10) (σ.2.1 25) from MK), ?_⟩
    intro x12 τ13 r_x12 hn_τ13 hf_τ13 hq
    obtain ⟨hT, q11_1, q11_2, q11_3⟩ := hq
    replace q11_1 : 0 ≤ x12 ∧ x12 ≤ 19 := q11_1
    replace q11_2 : x12 = 0 → j_in (τ13.1 36) 1000 (τ13.2.1 54) := q11_2
    replace q11_3 : J_mk (τ13.1 11) (τ13.1 8) (τ13.1 9) (τ13.1 10) (τ13.2.1 25) := q11_3
    replace ag : c_ag σ τ13 := ag_r ag hf_τ13 rfl rfl
    have w3_τ13 : τ13.1 3 = σ.1 3 := hf_τ13.1 3 (by decide)
    have w4_τ13 : τ13.1 4 = σ.1 4 := hf_τ13.1 4 (by decide)
    have w5_τ13 : τ13.1 5 = σ.1 5 := hf_τ13.1 5 (by decide)
    have w6_τ13 : τ13.1 6 = σ.1 6 := hf_τ13.1 6 (by decide)
    have w7_τ13 : τ13.1 7 = σ.1 7 := hf_τ13.1 7 (by decide)
    have w8_τ13 : τ13.1 8 = σ.1 8 := hf_τ13.1 8 (by decide)
    have w9_τ13 : τ13.1 9 = σ.1 9 := hf_τ13.1 9 (by decide)
    have w11_τ13 : τ13.1 11 = σ.1 11 := hf_τ13.1 11 (by decide)
    have w12_τ13 : τ13.1 12 = σ.1 12 := hf_τ13.1 12 (by decide)
    have w13_τ13 : τ13.1 13 = σ.1 13 := hf_τ13.1 13 (by decide)
    have w14_τ13 : τ13.1 14 = σ.1 14 := hf_τ13.1 14 (by decide)
    have w15_τ13 : τ13.1 15 = σ.1 15 := hf_τ13.1 15 (by decide)
    have w16_τ13 : τ13.1 16 = σ.1 16 := hf_τ13.1 16 (by decide)
    have w21_τ13 : τ13.1 21 = σ.1 21 := hf_τ13.1 21 (by decide)
    have w22_τ13 : τ13.1 22 = σ.1 22 := hf_τ13.1 22 (by decide)
    have w23_τ13 : τ13.1 23 = σ.1 23 := hf_τ13.1 23 (by decide)
    have w24_τ13 : τ13.1 24 = σ.1 24 := hf_τ13.1 24 (by decide)
    have w25_τ13 : τ13.1 25 = σ.1 25 := hf_τ13.1 25 (by decide)
    have w26_τ13 : τ13.1 26 = σ.1 26 := hf_τ13.1 26 (by decide)
    have w27_τ13 : τ13.1 27 = σ.1 27 := hf_τ13.1 27 (by decide)
    have w35_τ13 : τ13.1 35 = σ.1 35 := hf_τ13.1 35 (by decide)
    have w37_τ13 : τ13.1 37 = σ.1 37 := hf_τ13.1 37 (by decide)
    have w38_τ13 : τ13.1 38 = σ.1 38 := hf_τ13.1 38 (by decide)
    have w39_τ13 : τ13.1 39 = σ.1 39 := hf_τ13.1 39 (by decide)
    have w66_τ13 : τ13.1 66 = σ.1 66 := hf_τ13.1 66 (by decide)
    have g2_τ13 : τ13.2.1 2 = σ.2.1 2 := hf_τ13.2.1 2 (by decide)
    have g3_τ13 : τ13.2.1 3 = σ.2.1 3 := hf_τ13.2.1 3 (by decide)
    have g4_τ13 : τ13.2.1 4 = σ.2.1 4 := hf_τ13.2.1 4 (by decide)
    have g5_τ13 : τ13.2.1 5 = σ.2.1 5 := hf_τ13.2.1 5 (by decide)
    have g6_τ13 : τ13.2.1 6 = σ.2.1 6 := hf_τ13.2.1 6 (by decide)
    have g9_τ13 : τ13.2.1 9 = σ.2.1 9 := hf_τ13.2.1 9 (by decide)
    have g10_τ13 : τ13.2.1 10 = σ.2.1 10 := hf_τ13.2.1 10 (by decide)
    have g11_τ13 : τ13.2.1 11 = σ.2.1 11 := hf_τ13.2.1 11 (by decide)
    have g13_τ13 : τ13.2.1 13 = σ.2.1 13 := hf_τ13.2.1 13 (by decide)
    have g14_τ13 : τ13.2.1 14 = σ.2.1 14 := hf_τ13.2.1 14 (by decide)
    have g15_τ13 : τ13.2.1 15 = σ.2.1 15 := hf_τ13.2.1 15 (by decide)
    have g16_τ13 : τ13.2.1 16 = σ.2.1 16 := hf_τ13.2.1 16 (by decide)
    have g18_τ13 : τ13.2.1 18 = σ.2.1 18 := hf_τ13.2.1 18 (by decide)
    have g19_τ13 : τ13.2.1 19 = σ.2.1 19 := hf_τ13.2.1 19 (by decide)
    have g20_τ13 : τ13.2.1 20 = σ.2.1 20 := hf_τ13.2.1 20 (by decide)
    have g22_τ13 : τ13.2.1 22 = σ.2.1 22 := hf_τ13.2.1 22 (by decide)
    have g25_τ13 : τ13.2.1 25 = σ.2.1 25 := hf_τ13.2.1 25 (by decide)
    have g26_τ13 : τ13.2.1 26 = σ.2.1 26 := hf_τ13.2.1 26 (by decide)
    have g27_τ13 : τ13.2.1 27 = σ.2.1 27 := hf_τ13.2.1 27 (by decide)
    have g28_τ13 : τ13.2.1 28 = σ.2.1 28 := hf_τ13.2.1 28 (by decide)
    have g29_τ13 : τ13.2.1 29 = σ.2.1 29 := hf_τ13.2.1 29 (by decide)
    have g30_τ13 : τ13.2.1 30 = σ.2.1 30 := hf_τ13.2.1 30 (by decide)
    have g31_τ13 : τ13.2.1 31 = σ.2.1 31 := hf_τ13.2.1 31 (by decide)
    have g32_τ13 : τ13.2.1 32 = σ.2.1 32 := hf_τ13.2.1 32 (by decide)
    have g33_τ13 : τ13.2.1 33 = σ.2.1 33 := hf_τ13.2.1 33 (by decide)
    have g34_τ13 : τ13.2.1 34 = σ.2.1 34 := hf_τ13.2.1 34 (by decide)
    have g35_τ13 : τ13.2.1 35 = σ.2.1 35 := hf_τ13.2.1 35 (by decide)
    have g36_τ13 : τ13.2.1 36 = σ.2.1 36 := hf_τ13.2.1 36 (by decide)
    have g37_τ13 : τ13.2.1 37 = σ.2.1 37 := hf_τ13.2.1 37 (by decide)
    have g44_τ13 : τ13.2.1 44 = σ.2.1 44 := hf_τ13.2.1 44 (by decide)
    have g45_τ13 : τ13.2.1 45 = σ.2.1 45 := hf_τ13.2.1 45 (by decide)
    have g49_τ13 : τ13.2.1 49 = σ.2.1 49 := hf_τ13.2.1 49 (by decide)
    have g51_τ13 : τ13.2.1 51 = σ.2.1 51 := hf_τ13.2.1 51 (by decide)
    have W7 : τ13.1 7 = σ.1 7 := by first | exact w7_τ13.trans W7 | omega
    have W9 : τ13.1 9 = σ.1 9 := by first | exact w9_τ13.trans W9 | omega
    have W11 : τ13.1 11 = σ.1 11 := by first | exact w11_τ13.trans W11 | omega
    have W12 : τ13.1 12 = σ.1 12 := by first | exact w12_τ13.trans W12 | omega
    have W13 : τ13.1 13 = σ.1 13 := by first | exact w13_τ13.trans W13 | omega
    have W14 : τ13.1 14 = σ.1 14 := by first | exact w14_τ13.trans W14 | omega
    have W15 : τ13.1 15 = σ.1 15 := by first | exact w15_τ13.trans W15 | omega
    have W16 : τ13.1 16 = σ.1 16 := by first | exact w16_τ13.trans W16 | omega
    have W21 : τ13.1 21 = σ.1 21 := by first | exact w21_τ13.trans W21 | omega
    have W22 : τ13.1 22 = σ.1 22 := by first | exact w22_τ13.trans W22 | omega
    have W23 : τ13.1 23 = σ.1 23 := by first | exact w23_τ13.trans W23 | omega
    have W24 : τ13.1 24 = σ.1 24 := by first | exact w24_τ13.trans W24 | omega
    have W25 : τ13.1 25 = σ.1 25 := by first | exact w25_τ13.trans W25 | omega
    have W26 : τ13.1 26 = σ.1 26 := by first | exact w26_τ13.trans W26 | omega
    have W27 : τ13.1 27 = σ.1 27 := by first | exact w27_τ13.trans W27 | omega
    have W37 : τ13.1 37 = σ.1 37 := by first | exact w37_τ13.trans W37 | omega
    have W38 : τ13.1 38 = σ.1 38 := by first | exact w38_τ13.trans W38 | omega
    have W39 : τ13.1 39 = σ.1 39 := by first | exact w39_τ13.trans W39 | omega
    have W66 : τ13.1 66 = σ.1 66 := by first | exact w66_τ13.trans W66 | omega
    have G13 : τ13.2.1 13 = σ.2.1 13 := (g13_τ13).trans G13
    have G19 : τ13.2.1 19 = σ.2.1 19 := (g19_τ13).trans G19
    have G22 : τ13.2.1 22 = σ.2.1 22 := (g22_τ13).trans G22
    have G25 : τ13.2.1 25 = σ.2.1 25 := (g25_τ13).trans G25
    have G26 : τ13.2.1 26 = σ.2.1 26 := (g26_τ13).trans G26
    have G27 : τ13.2.1 27 = σ.2.1 27 := (g27_τ13).trans G27
    have G28 : τ13.2.1 28 = σ.2.1 28 := (g28_τ13).trans G28
    have G29 : τ13.2.1 29 = σ.2.1 29 := (g29_τ13).trans G29
    have G30 : τ13.2.1 30 = σ.2.1 30 := (g30_τ13).trans G30
    have G31 : τ13.2.1 31 = σ.2.1 31 := (g31_τ13).trans G31
    have G32 : τ13.2.1 32 = σ.2.1 32 := (g32_τ13).trans G32
    have G33 : τ13.2.1 33 = σ.2.1 33 := (g33_τ13).trans G33
    have G34 : τ13.2.1 34 = σ.2.1 34 := (g34_τ13).trans G34
    have G35 : τ13.2.1 35 = σ.2.1 35 := (g35_τ13).trans G35
    have G36 : τ13.2.1 36 = σ.2.1 36 := (g36_τ13).trans G36
    have G37 : τ13.2.1 37 = σ.2.1 37 := (g37_τ13).trans G37
    have G44 : τ13.2.1 44 = σ.2.1 44 := (g44_τ13).trans G44
    have G45 : τ13.2.1 45 = σ.2.1 45 := (g45_τ13).trans G45
    have G49 : τ13.2.1 49 = σ.2.1 49 := (g49_τ13).trans G49
    have G51 : τ13.2.1 51 = σ.2.1 51 := (g51_τ13).trans G51
    have y14_7_τ13 : τ13.2.1 14 (τ13.1 7) = (σ.2.1 14) (σ.1 7) := by rw [g14_τ13, w7_τ13]
    have y36_15_τ13 : τ13.2.1 36 (τ13.1 15) = (σ.2.1 36) (σ.1 15) := by rw [g36_τ13, w15_τ13]
    have HT : J_ht (τ13.1 3) (τ13.2.1 2) (τ13.2.1 3) (τ13.2.1 5) (τ13.2.1 6) := by rw [show (J_ht (τ13.1 3) (τ13.2.1 2) (τ13.2.1 3) (τ13.2.1 5) (τ13.2.1 6)) = (J_ht (σ.1 3) (σ.2.1 2) (σ.2.1 3) (σ.2.1 5) (σ.2.1 6)) from by rw [w3_τ13, g2_τ13, g3_τ13, g5_τ13, g6_τ13]]; exact HT
    have NL : J_nl (τ13.1 3) (τ13.2.1 2) (τ13.2.1 3) (τ13.2.1 4) := by rw [show (J_nl (τ13.1 3) (τ13.2.1 2) (τ13.2.1 3) (τ13.2.1 4)) = (J_nl (σ.1 3) (σ.2.1 2) (σ.2.1 3) (σ.2.1 4)) from by rw [w3_τ13, g2_τ13, g3_τ13, g4_τ13]]; exact NL
    have MN : J_mn (τ13.1 3) (τ13.1 5) ((τ13.1 7) + 1) (τ13.2.1 4) := by rw [show (J_mn (τ13.1 3) (τ13.1 5) ((τ13.1 7) + 1) (τ13.2.1 4)) = (J_mn (σ.1 3) (σ.1 5) ((σ.1 7) + 1) (σ.2.1 4)) from by rw [w3_τ13, w5_τ13, w7_τ13, g4_τ13]]; exact MN
    have VA : J_va (τ13.1 8) 1000 (τ13.2.1 18) (τ13.2.1 20) := by rw [show (J_va (τ13.1 8) 1000 (τ13.2.1 18) (τ13.2.1 20)) = (J_va (σ.1 8) 1000 (σ.2.1 18) (σ.2.1 20)) from by rw [w8_τ13, g18_τ13, g20_τ13]]; exact VA
    have SC : J_sc (τ13.1 7) (τ13.1 9) (τ13.2.1 13) (τ13.2.1 14) (τ13.2.1 15) (τ13.2.1 16) (τ13.2.1 22) (τ13.2.1 19) := by rw [show (J_sc (τ13.1 7) (τ13.1 9) (τ13.2.1 13) (τ13.2.1 14) (τ13.2.1 15) (τ13.2.1 16) (τ13.2.1 22) (τ13.2.1 19)) = (J_sc (σ.1 7) (σ.1 9) (σ.2.1 13) (σ.2.1 14) (σ.2.1 15) (σ.2.1 16) (σ.2.1 22) (σ.2.1 19)) from by rw [w7_τ13, w9_τ13, g13_τ13, g14_τ13, g15_τ13, g16_τ13, g19_τ13, g22_τ13]]; exact SC
    have MK : J_mk (τ13.1 11) (τ13.1 8) (τ13.1 9) (τ13.1 10) (τ13.2.1 25) := q11_3
    have FF : J_ff (τ13.1 5) (τ13.1 7) (τ13.2.1 9) (τ13.2.1 13) (τ13.2.1 14) (τ13.2.1 15) := by rw [show (J_ff (τ13.1 5) (τ13.1 7) (τ13.2.1 9) (τ13.2.1 13) (τ13.2.1 14) (τ13.2.1 15)) = (J_ff (σ.1 5) (σ.1 7) (σ.2.1 9) (σ.2.1 13) (σ.2.1 14) (σ.2.1 15)) from by rw [w5_τ13, w7_τ13, g9_τ13, g13_τ13, g14_τ13, g15_τ13]]; exact FF
    have MT : ∀ s : Int, τ13.2.1 26 s ≤ (τ13.1 12) := by rw [show (∀ s : Int, τ13.2.1 26 s ≤ (τ13.1 12)) = (∀ s : Int, σ.2.1 26 s ≤ (σ.1 12)) from by rw [w12_τ13, g26_τ13]]; exact MT
    have VS : J_vs (τ13.1 8) (τ13.1 5) (τ13.2.1 20) := by rw [show (J_vs (τ13.1 8) (τ13.1 5) (τ13.2.1 20)) = (J_vs (σ.1 8) (σ.1 5) (σ.2.1 20)) from by rw [w5_τ13, w8_τ13, g20_τ13]]; exact VS
    have TX : J_vs (τ13.1 6) (τ13.1 5) (τ13.2.1 15) := by rw [show (J_vs (τ13.1 6) (τ13.1 5) (τ13.2.1 15)) = (J_vs (σ.1 6) (σ.1 5) (σ.2.1 15)) from by rw [w5_τ13, w6_τ13, g15_τ13]]; exact TX
    have RKS : J_rks (τ13.1 5) (τ13.1 4) (τ13.2.1 10) (τ13.2.1 11) := by rw [show (J_rks (τ13.1 5) (τ13.1 4) (τ13.2.1 10) (τ13.2.1 11)) = (J_rks (σ.1 5) (σ.1 4) (σ.2.1 10) (σ.2.1 11)) from by rw [w4_τ13, w5_τ13, g10_τ13, g11_τ13]]; exact RKS
    have CJ : J_all (τ13.1 7) (τ13.1 6) (τ13.1 13) (τ13.1 14) (τ13.1 15) (τ13.2.1 13) (τ13.2.1 14) (τ13.2.1 15) (τ13.2.1 16) (τ13.2.1 10) (τ13.2.1 27) (τ13.2.1 28) (τ13.2.1 29) (τ13.2.1 30) (τ13.2.1 31) (τ13.2.1 32) (τ13.2.1 33) (τ13.2.1 34) (τ13.2.1 35) (τ13.2.1 36) (τ13.2.1 37) := by rw [show (J_all (τ13.1 7) (τ13.1 6) (τ13.1 13) (τ13.1 14) (τ13.1 15) (τ13.2.1 13) (τ13.2.1 14) (τ13.2.1 15) (τ13.2.1 16) (τ13.2.1 10) (τ13.2.1 27) (τ13.2.1 28) (τ13.2.1 29) (τ13.2.1 30) (τ13.2.1 31) (τ13.2.1 32) (τ13.2.1 33) (τ13.2.1 34) (τ13.2.1 35) (τ13.2.1 36) (τ13.2.1 37)) = (J_all (σ.1 7) (σ.1 6) (σ.1 13) (σ.1 14) (σ.1 15) (σ.2.1 13) (σ.2.1 14) (σ.2.1 15) (σ.2.1 16) (σ.2.1 10) (σ.2.1 27) (σ.2.1 28) (σ.2.1 29) (σ.2.1 30) (σ.2.1 31) (σ.2.1 32) (σ.2.1 33) (σ.2.1 34) (σ.2.1 35) (σ.2.1 36) (σ.2.1 37)) from by rw [w6_τ13, w7_τ13, w13_τ13, w14_τ13, w15_τ13, g10_τ13, g13_τ13, g14_τ13, g15_τ13, g16_τ13, g27_τ13, g28_τ13, g29_τ13, g30_τ13, g31_τ13, g32_τ13, g33_τ13, g34_τ13, g35_τ13, g36_τ13, g37_τ13]]; exact CJ
    have BP : J_bp (τ13.2.1 44) (τ13.2.1 45) := by rw [show (J_bp (τ13.2.1 44) (τ13.2.1 45)) = (J_bp (σ.2.1 44) (σ.2.1 45)) from by rw [g44_τ13, g45_τ13]]; exact BP
    have CH : j_eq (σ.2.1 36 (σ.1 15)) (σ.2.1 37) (τ13.2.1 37) := by rw [show (j_eq (σ.2.1 36 (σ.1 15)) (σ.2.1 37) (τ13.2.1 37)) = (j_eq (σ.2.1 36 (σ.1 15)) (σ.2.1 37) (σ.2.1 37)) from by rw [g37_τ13]]; exact CH
    have IPs : J_it (τ13.1 35) (τ13.1 7) (τ13.1 6) (τ13.1 37) (τ13.2.1 14) (τ13.2.1 15) (τ13.2.1 16) (τ13.2.1 19) := by rw [show (J_it (τ13.1 35) (τ13.1 7) (τ13.1 6) (τ13.1 37) (τ13.2.1 14) (τ13.2.1 15) (τ13.2.1 16) (τ13.2.1 19)) = (J_it (σ.1 35) (σ.1 7) (σ.1 6) (σ.1 37) (σ.2.1 14) (σ.2.1 15) (σ.2.1 16) (σ.2.1 19)) from by rw [w6_τ13, w7_τ13, w35_τ13, w37_τ13, g14_τ13, g15_τ13, g16_τ13, g19_τ13]]; exact IPs
    have HUs : J_hu (τ13.1 35) (τ13.1 13) (τ13.1 7) := by rw [show (J_hu (τ13.1 35) (τ13.1 13) (τ13.1 7)) = (J_hu (σ.1 35) (σ.1 13) (σ.1 7)) from by rw [w7_τ13, w13_τ13, w35_τ13]]; exact HUs
    have FRs : J_ft (τ13.1 35) (τ13.1 24) (τ13.1 7) (τ13.1 13) (τ13.1 14) (τ13.2.1 13) (τ13.2.1 14) (τ13.2.1 15) (τ13.2.1 16) (τ13.2.1 27) (τ13.2.1 28) (τ13.2.1 29) (τ13.2.1 30) (τ13.2.1 31) (τ13.2.1 32) := by rw [show (J_ft (τ13.1 35) (τ13.1 24) (τ13.1 7) (τ13.1 13) (τ13.1 14) (τ13.2.1 13) (τ13.2.1 14) (τ13.2.1 15) (τ13.2.1 16) (τ13.2.1 27) (τ13.2.1 28) (τ13.2.1 29) (τ13.2.1 30) (τ13.2.1 31) (τ13.2.1 32)) = (J_ft (σ.1 35) (σ.1 24) (σ.1 7) (σ.1 13) (σ.1 14) (σ.2.1 13) (σ.2.1 14) (σ.2.1 15) (σ.2.1 16) (σ.2.1 27) (σ.2.1 28) (σ.2.1 29) (σ.2.1 30) (σ.2.1 31) (σ.2.1 32)) from by rw [w7_τ13, w13_τ13, w14_τ13, w24_τ13, w35_τ13, g13_τ13, g14_τ13, g15_τ13, g16_τ13, g27_τ13, g28_τ13, g29_τ13, g30_τ13, g31_τ13, g32_τ13]]; exact FRs
    have SPs : J_ss (τ13.1 35) (τ13.1 24) (τ13.1 21) (τ13.1 23) (τ13.1 22) (τ13.1 27) (τ13.1 26) (τ13.1 25) (τ13.1 16) (τ13.2.1 49) (τ13.2.1 51) := by rw [show (J_ss (τ13.1 35) (τ13.1 24) (τ13.1 21) (τ13.1 23) (τ13.1 22) (τ13.1 27) (τ13.1 26) (τ13.1 25) (τ13.1 16) (τ13.2.1 49) (τ13.2.1 51)) = (J_ss (σ.1 35) (σ.1 24) (σ.1 21) (σ.1 23) (σ.1 22) (σ.1 27) (σ.1 26) (σ.1 25) (σ.1 16) (σ.2.1 49) (σ.2.1 51)) from by rw [w16_τ13, w21_τ13, w22_τ13, w23_τ13, w24_τ13, w25_τ13, w26_τ13, w27_τ13, w35_τ13, g49_τ13, g51_τ13]]; exact SPs
    have A2 : ∀ j, 0 ≤ τ13.2.1 2 j ∧ τ13.2.1 2 j ≤ 65535 := fun j => hT.2 2 j
    have A3 : ∀ j, 0 ≤ τ13.2.1 3 j ∧ τ13.2.1 3 j ≤ 30000 := fun j => hT.2 3 j
    have A4 : ∀ j, (-1000) ≤ τ13.2.1 4 j ∧ τ13.2.1 4 j ≤ 1499 := fun j => hT.2 4 j
    have A5 : ∀ j, 0 ≤ τ13.2.1 5 j ∧ τ13.2.1 5 j ≤ 2500 := fun j => hT.2 5 j
    have A6 : ∀ j, 0 ≤ τ13.2.1 6 j ∧ τ13.2.1 6 j ≤ 2500 := fun j => hT.2 6 j
    have A9 : ∀ j, (-1) ≤ τ13.2.1 9 j ∧ τ13.2.1 9 j ≤ 1499 := fun j => hT.2 9 j
    have A10 : ∀ j, (-1) ≤ τ13.2.1 10 j ∧ τ13.2.1 10 j ≤ 99 := fun j => hT.2 10 j
    have A11 : ∀ j, 0 ≤ τ13.2.1 11 j ∧ τ13.2.1 11 j ≤ 999 := fun j => hT.2 11 j
    have A13 : ∀ j, 0 ≤ τ13.2.1 13 j ∧ τ13.2.1 13 j ≤ 4 := fun j => hT.2 13 j
    have A14 : ∀ j, 0 ≤ τ13.2.1 14 j ∧ τ13.2.1 14 j ≤ 30000 := fun j => hT.2 14 j
    have A15 : ∀ j, 0 ≤ τ13.2.1 15 j ∧ τ13.2.1 15 j ≤ 999 := fun j => hT.2 15 j
    have A16 : ∀ j, (-1) ≤ τ13.2.1 16 j ∧ τ13.2.1 16 j ≤ 1499 := fun j => hT.2 16 j
    have A18 : ∀ j, 0 ≤ τ13.2.1 18 j ∧ τ13.2.1 18 j ≤ 1 := fun j => hT.2 18 j
    have A19 : ∀ j, (-1) ≤ τ13.2.1 19 j ∧ τ13.2.1 19 j ≤ 1499 := fun j => hT.2 19 j
    have A20 : ∀ j, 0 ≤ τ13.2.1 20 j ∧ τ13.2.1 20 j ≤ 999 := fun j => hT.2 20 j
    have A22 : ∀ j, 0 ≤ τ13.2.1 22 j ∧ τ13.2.1 22 j ≤ 1499 := fun j => hT.2 22 j
    have A26 : ∀ j, (-2147483648) ≤ τ13.2.1 26 j ∧ τ13.2.1 26 j ≤ 2147483647 := fun j => hT.2 26 j
    have A27 : ∀ j, 0 ≤ τ13.2.1 27 j ∧ τ13.2.1 27 j ≤ 90000 := fun j => hT.2 27 j
    have A28 : ∀ j, 0 ≤ τ13.2.1 28 j ∧ τ13.2.1 28 j ≤ 60 := fun j => hT.2 28 j
    have A29 : ∀ j, 0 ≤ τ13.2.1 29 j ∧ τ13.2.1 29 j ≤ 1499 := fun j => hT.2 29 j
    have A30 : ∀ j, 0 ≤ τ13.2.1 30 j ∧ τ13.2.1 30 j ≤ 20000 := fun j => hT.2 30 j
    have A31 : ∀ j, 0 ≤ τ13.2.1 31 j ∧ τ13.2.1 31 j ≤ 20000 := fun j => hT.2 31 j
    have A32 : ∀ j, 0 ≤ τ13.2.1 32 j ∧ τ13.2.1 32 j ≤ 999999 := fun j => hT.2 32 j
    have A33 : ∀ j, 0 ≤ τ13.2.1 33 j ∧ τ13.2.1 33 j ≤ 20000 := fun j => hT.2 33 j
    have A34 : ∀ j, 0 ≤ τ13.2.1 34 j ∧ τ13.2.1 34 j ≤ 20000 := fun j => hT.2 34 j
    have A35 : ∀ j, 0 ≤ τ13.2.1 35 j ∧ τ13.2.1 35 j ≤ 1499 := fun j => hT.2 35 j
    have A36 : ∀ j, 0 ≤ τ13.2.1 36 j ∧ τ13.2.1 36 j ≤ 20000 := fun j => hT.2 36 j
    have A37 : ∀ j, 0 ≤ τ13.2.1 37 j ∧ τ13.2.1 37 j ≤ 19999 := fun j => hT.2 37 j
    have A44 : ∀ j, 0 ≤ τ13.2.1 44 j ∧ τ13.2.1 44 j ≤ 42000 := fun j => hT.2 44 j
    have A45 : ∀ j, 0 ≤ τ13.2.1 45 j ∧ τ13.2.1 45 j ≤ 1000 := fun j => hT.2 45 j
    have A49 : ∀ j, (-300) ≤ τ13.2.1 49 j ∧ τ13.2.1 49 j ≤ 67035 := fun j => hT.2 49 j
    have A51 : ∀ j, 0 ≤ τ13.2.1 51 j ∧ τ13.2.1 51 j ≤ 1499 := fun j => hT.2 51 j
    have A54 : ∀ j, 0 ≤ τ13.2.1 54 j ∧ τ13.2.1 54 j ≤ 999 := fun j => hT.2 54 j
    have v3 : 0 ≤ τ13.1 3 ∧ τ13.1 3 ≤ 2500 := hT.1 3
    have v4 : 0 ≤ τ13.1 4 ∧ τ13.1 4 ≤ 100 := hT.1 4
    have v5 : 0 ≤ τ13.1 5 ∧ τ13.1 5 ≤ 1000 := hT.1 5
    have v6 : 0 ≤ τ13.1 6 ∧ τ13.1 6 ≤ 30000 := hT.1 6
    have v7 : 0 ≤ τ13.1 7 ∧ τ13.1 7 ≤ 1500 := hT.1 7
    have v8 : 0 ≤ τ13.1 8 ∧ τ13.1 8 ≤ 1000 := hT.1 8
    have v9 : 0 ≤ τ13.1 9 ∧ τ13.1 9 ≤ 1500 := hT.1 9
    have v10 : 0 ≤ τ13.1 10 ∧ τ13.1 10 ≤ 1000 := hT.1 10
    have v11 : 0 ≤ τ13.1 11 ∧ τ13.1 11 ≤ 50 := hT.1 11
    have v12 : (-2147483648) ≤ τ13.1 12 ∧ τ13.1 12 ≤ 2147483647 := hT.1 12
    have v13 : 0 ≤ τ13.1 13 ∧ τ13.1 13 ≤ 90000 := hT.1 13
    have v14 : 0 ≤ τ13.1 14 ∧ τ13.1 14 ≤ 20000 := hT.1 14
    have v15 : 0 ≤ τ13.1 15 ∧ τ13.1 15 ≤ 20000 := hT.1 15
    have v16 : 0 ≤ τ13.1 16 ∧ τ13.1 16 ≤ 20000 := hT.1 16
    have v21 : 0 ≤ τ13.1 21 ∧ τ13.1 21 ≤ 20000 := hT.1 21
    have v22 : 0 ≤ τ13.1 22 ∧ τ13.1 22 ≤ 300 := hT.1 22
    have v23 : 0 ≤ τ13.1 23 ∧ τ13.1 23 ≤ 300 := hT.1 23
    have v24 : 0 ≤ τ13.1 24 ∧ τ13.1 24 ≤ 1499 := hT.1 24
    have v25 : 0 ≤ τ13.1 25 ∧ τ13.1 25 ≤ 3 := hT.1 25
    have v26 : 0 ≤ τ13.1 26 ∧ τ13.1 26 ≤ 5000010 := hT.1 26
    have v27 : 0 ≤ τ13.1 27 ∧ τ13.1 27 ≤ 1 := hT.1 27
    have v35 : 0 ≤ τ13.1 35 ∧ τ13.1 35 ≤ 7 := hT.1 35
    have v36 : 0 ≤ τ13.1 36 ∧ τ13.1 36 ≤ 1001 := hT.1 36
    have v37 : 0 ≤ τ13.1 37 ∧ τ13.1 37 ≤ 4 := hT.1 37
    have v38 : (-1) ≤ τ13.1 38 ∧ τ13.1 38 ≤ 999 := hT.1 38
    have v39 : (-1) ≤ τ13.1 39 ∧ τ13.1 39 ≤ 1499 := hT.1 39
    have v66 : 0 ≤ τ13.1 66 ∧ τ13.1 66 ≤ 1 := hT.1 66
    have a14_7 : 0 ≤ τ13.2.1 14 (τ13.1 7) ∧ τ13.2.1 14 (τ13.1 7) ≤ 30000 := hT.2 14 _
    have a36_15 : 0 ≤ τ13.2.1 36 (τ13.1 15) ∧ τ13.2.1 36 (τ13.1 15) ≤ 20000 := hT.2 36 _
    have av3 : σ.1 3 ≤ τ13.1 3 := ag.1 3 (by decide)
    have av5 : σ.1 5 ≤ τ13.1 5 := ag.1 5 (by decide)
    have av6 : σ.1 6 ≤ τ13.1 6 := ag.1 6 (by decide)
    have a14 := ag_k ag 14 7 1 (by decide) (σ.1 7) (by omega)
    exact ⟨hT, (show 0 ≤ x12 ∧ x12 ≤ 19 from by (first | assumption | omega | (simp only [st_s] <;> omega) | fail)), (show J_ht (τ13.1 3) (τ13.2.1 2) (τ13.2.1 3) (τ13.2.1 5) (τ13.2.1 6) from HT), (show J_mn (τ13.1 3) (τ13.1 5) ((τ13.1 7) + 1) (τ13.2.1 4) from MN), (show J_rks (τ13.1 5) (τ13.1 4) (τ13.2.1 10) (τ13.2.1 11) from RKS), (show J_vs (τ13.1 8) (τ13.1 5) (τ13.2.1 20) from VS), (show J_vs (τ13.1 6) (τ13.1 5) (τ13.2.1 15) from TX), (show J_va (τ13.1 8) 1000 (τ13.2.1 18) (τ13.2.1 20) from VA), (show J_mk (τ13.1 11) (τ13.1 8) (τ13.1 9) (τ13.1 10) (τ13.2.1 25) from MK), (show J_sc (τ13.1 7) (τ13.1 9) (τ13.2.1 13) (τ13.2.1 14) (τ13.2.1 15) (τ13.2.1 16) (τ13.2.1 22) (τ13.2.1 19) from SC), (show J_ff (τ13.1 5) (τ13.1 7) (τ13.2.1 9) (τ13.2.1 13) (τ13.2.1 14) (τ13.2.1 15) from FF), (show ∀ s : Int, τ13.2.1 26 s ≤ (τ13.1 12) from MT), (show J_all (τ13.1 7) (τ13.1 6) (τ13.1 13) (τ13.1 14) (τ13.1 15) (τ13.2.1 13) (τ13.2.1 14) (τ13.2.1 15) (τ13.2.1 16) (τ13.2.1 10) (τ13.2.1 27) (τ13.2.1 28) (τ13.2.1 29) (τ13.2.1 30) (τ13.2.1 31) (τ13.2.1 32) (τ13.2.1 33) (τ13.2.1 34) (τ13.2.1 35) (τ13.2.1 36) (τ13.2.1 37) from CJ), (show J_bp (τ13.2.1 44) (τ13.2.1 45) from BP), (show J_nl (τ13.1 3) (τ13.2.1 2) (τ13.2.1 3) (τ13.2.1 4) from NL), (show x12 = 0 → J_rs (τ13.1 35) (τ13.1 7) (τ13.1 6) (τ13.1 36) (τ13.1 37) (τ13.1 5) (τ13.1 8) (τ13.2.1 14) from by (first | exact fun z => absurd z (by decide) | (intro z; have w := q2_2 z; have rs := p14; unfold J_rs at rs ⊢; rw [show (s_v τ4 35 1).1 35 = 1 from rfl] at *; omega) | (intro z; have w := q2_2 z; have rs := J_rs_0 p14 (by omega); unfold J_rs; rw [g14_τ4, w7_τ4]; omega) | (intro z; have w := q5_9 z; have rs := J_rs_0 p14 (by omega); unfold J_rs; rw [g14_τ7, w7_τ7]; omega) | (intro z; have w := q8_11 z; have rs := J_rs_0 p14 (by omega); unfold J_rs; rw [g14_τ10, w7_τ10]; omega) | (intro z; have rs := J_rs_0 p14 (by omega); unfold J_rs; rw [g14_τ13, w7_τ13]; omega) | (intro z; have w1 := q14_5 z; have w2 := q14_7 z; have w3 := q14_8 z; have w4 := J_rs_4 p14 (by omega); rw [show τ16.1 7 = σ.1 7 from by omega] at w1; unfold J_rs; rw [show τ16.1 7 = σ.1 7 from by omega]; omega) | fail)), (show x12 = 0 → J_uc (τ13.1 35) (τ13.1 36) (τ13.2.1 10 (τ13.2.1 15 (τ13.2.1 14 (τ13.1 7)))) from by (first | exact fun z => absurd z (by decide) | (intro z y; exfalso; omega) | (intro z y y2; exact q14_6 z) | fail)), (show x12 = 0 → J_dj (τ13.1 35) (τ13.1 36) (τ13.2.1 54) from by (first | exact fun z => absurd z (by decide) | (intro z y; exfalso; omega) | (intro z y; exact q11_2 z) | fail)), (show x12 = 0 → J_it (τ13.1 35) (τ13.1 7) (τ13.1 6) (τ13.1 37) (τ13.2.1 14) (τ13.2.1 15) (τ13.2.1 16) (τ13.2.1 19) from by (first | exact fun z => absurd z (by decide) | (intro z y; exfalso; omega) | (intro z y; exact q14_9 z) | fail)), (show x12 = 0 → J_hu (τ13.1 35) (τ13.1 13) (τ13.1 7) from by (first | exact fun z => absurd z (by decide) | exact fun _ => HUs | (intro z; have hu := hux; unfold J_hu at hu ⊢; omega) | fail)), (show x12 = 0 → J_ft (τ13.1 35) (τ13.1 24) (τ13.1 7) (τ13.1 13) (τ13.1 14) (τ13.2.1 13) (τ13.2.1 14) (τ13.2.1 15) (τ13.2.1 16) (τ13.2.1 27) (τ13.2.1 28) (τ13.2.1 29) (τ13.2.1 30) (τ13.2.1 31) (τ13.2.1 32) from by (first | exact fun z => absurd z (by decide) | (intro z y; exfalso; omega) | exact fun _ => FRs | exact fun _ => frx | (intro z y; exact frx (by omega)) | (intro z y; have w := frx (by omega); rw [W7, W13, W14, W24, G13, G14, G15, G16, G27, G28, G29, G30, G31, G32]; exact w) | fail)), (show x12 = 0 → J_ss (τ13.1 35) (τ13.1 24) (τ13.1 21) (τ13.1 23) (τ13.1 22) (τ13.1 27) (τ13.1 26) (τ13.1 25) (τ13.1 16) (τ13.2.1 49) (τ13.2.1 51) from by (first | exact fun z => absurd z (by decide) | (intro z y; exfalso; omega) | exact fun _ => SPs | exact fun _ => spx | (intro z y; exact spx (by omega)) | fail)), (show x12 = 0 → (τ13.1 15) ≤ (τ13.1 16) ∧ τ13.2.1 36 (τ13.1 15) ≤ (τ13.1 16) from by (intro z; first | exact sux | omega)), (show x12 = 0 → (τ13.1 9) ≤ (τ13.1 7) from by (intro z; omega)), (show j_rr ((σ.1 5)) (σ.2.1 10) (τ13.2.1 10) from by (first | exact j_rr0 _ _ | (rw [g10_τ4]; exact j_rr0 _ _) | (rw [g10_τ13]; exact j_rr0 _ _) | (rw [G10]; exact j_rr0 _ _) | exact q5_8 | exact q8_10 | exact q14_4 | fail)), (show j_eq (σ.2.1 36 (σ.1 15)) (σ.2.1 37) (τ13.2.1 37) from CH), (show (τ13.1 12) ≤ (σ.1 12) + 1 from by (first | assumption | omega | (simp only [st_s] <;> omega) | fail)), (show c_Y σ τ13 from by (first | exact c_Y0 _ | exact q8_12 | exact q14_10 | exact c_Y_g W4 G11 G20 G22 G25 | exact c_Y_g (by omega) (by rw [g11_τ4]) (by rw [g20_τ4]) (by rw [g22_τ4]) (by rw [g25_τ4]) | exact c_Y_g (by omega) (by rw [g11_τ7]) (by rw [g20_τ7]) (by rw [g22_τ7]) (by rw [g25_τ7]) | exact c_Y_g (by omega) (by rw [g11_τ13]) (by rw [g20_τ13]) (by rw [g22_τ13]) (by rw [g25_τ13]) | fail)), (show j_nm σ τ13 from by (first | exact j_nm0 _ | exact (show j_nm σ τ4 from q2_6) | exact (show j_nm σ τ7 from q5_11) | exact (show j_nm σ τ10 from q8_14) | exact (show j_nm σ τ13 from j_nm_h hf_τ13 rfl) | exact (show j_nm σ τ16 from j_nm_h hf_τ16 rfl) | fail)), ag⟩
  ·
    have ipj := ipx (by omega)
    have ucj := uc (by omega)
    have rs5 := J_rs_5 rsx (by omega)
    have rsk := J_rs_k rsx c1
    refine ⟨_, K_X7_takeSymbol hT (show -1 ≤ (σ.1 38) from by (first | assumption | omega | (simp only [st_s] <;> omega) | fail)) (show (σ.1 38) < 1000 from by (first | assumption | omega | (simp only [st_s] <;> omega) | fail)) (show (σ.1 38) < (σ.1 5) from by (first | assumption | omega | (simp only [st_s] <;> omega) | fail)) (show (σ.1 7) < 1500 from by (first | assumption | omega | (simp only [st_s] <;> omega) | fail)) (show σ.2.1 14 (σ.1 7) + (σ.1 36) = (σ.1 6) from by (first | assumption | omega | (simp only [st_s] <;> omega) | fail)) (show ∀ s : Int, 0 ≤ s → s < (σ.1 5) → 0 ≤ σ.2.1 9 s → σ.2.1 14 (σ.2.1 9 s) < 30000 from by (first | assumption | omega | (simp only [st_s] <;> omega) | fail)) (show J_vs (σ.1 6) (σ.1 5) (σ.2.1 15) from TX) (show J_rks (σ.1 5) (σ.1 4) (σ.2.1 10) (σ.2.1 11) from RKS) (show 1 ≤ (σ.1 36) → 0 ≤ σ.2.1 10 (σ.2.1 15 (σ.2.1 14 (σ.1 7))) from by (first | assumption | omega | (simp only [st_s] <;> omega) | fail)) (show (σ.1 37) = 0 → (σ.1 36) ≤ 2 from by (first | assumption | omega | (simp only [st_s] <;> omega) | fail)) (show (σ.1 36) ≤ 300 from by (first | assumption | omega | (simp only [st_s] <;> omega) | fail)) (show J_ip (σ.1 7) (σ.1 6) (σ.1 37) (σ.2.1 14) (σ.2.1 15) (σ.2.1 16) (σ.2.1 19) from by (first | assumption | omega | (simp only [st_s] <;> omega) | fail)), ?_⟩
    intro x15 τ16 r_x15 hn_τ16 hf_τ16 hq
    obtain ⟨hT, q14_1, q14_2, q14_3, q14_4, q14_5, q14_6, q14_7, q14_8, q14_9, q14_10, q14_11⟩ := hq
    replace q14_1 : 0 ≤ x15 ∧ x15 ≤ 19 := q14_1
    replace q14_2 : J_vs (τ16.1 6) (τ16.1 5) (τ16.2.1 15) := q14_2
    replace q14_3 : J_rks (τ16.1 5) (τ16.1 4) (τ16.2.1 10) (τ16.2.1 11) := q14_3
    replace q14_4 : j_rr ((σ.1 5)) (σ.2.1 10) (τ16.2.1 10) := q14_4
    replace q14_5 : x15 = 0 → (τ16.1 36) = (σ.1 36) + 1 ∧ (τ16.1 6) = (σ.1 6) + 1 ∧ τ16.2.1 14 ((τ16.1 7) + 1) = (τ16.1 6) := q14_5
    replace q14_6 : x15 = 0 → 0 ≤ τ16.2.1 10 (τ16.2.1 15 (τ16.2.1 14 (τ16.1 7))) := q14_6
    replace q14_7 : x15 = 0 → (σ.1 37) = 0 → (τ16.1 36) ≤ 2 := q14_7
    replace q14_8 : x15 = 0 → (τ16.1 36) ≤ 300 := q14_8
    replace q14_9 : x15 = 0 → J_ip (τ16.1 7) (τ16.1 6) (τ16.1 37) (τ16.2.1 14) (τ16.2.1 15) (τ16.2.1 16) (τ16.2.1 19) := q14_9
    replace q14_10 : c_Y σ τ16 := q14_10
    replace q14_11 : c_ag σ τ16 := q14_11
    replace ag : c_ag σ τ16 := ag_t ag q14_11 rfl
    have w3_τ16 : τ16.1 3 = σ.1 3 := hf_τ16.1 3 (by decide)
    have w5_τ16 : τ16.1 5 = σ.1 5 := hf_τ16.1 5 (by decide)
    have w7_τ16 : τ16.1 7 = σ.1 7 := hf_τ16.1 7 (by decide)
    have w8_τ16 : τ16.1 8 = σ.1 8 := hf_τ16.1 8 (by decide)
    have w9_τ16 : τ16.1 9 = σ.1 9 := hf_τ16.1 9 (by decide)
    have w10_τ16 : τ16.1 10 = σ.1 10 := hf_τ16.1 10 (by decide)
    have w11_τ16 : τ16.1 11 = σ.1 11 := hf_τ16.1 11 (by decide)
    have w12_τ16 : τ16.1 12 = σ.1 12 := hf_τ16.1 12 (by decide)
    have w13_τ16 : τ16.1 13 = σ.1 13 := hf_τ16.1 13 (by decide)
    have w14_τ16 : τ16.1 14 = σ.1 14 := hf_τ16.1 14 (by decide)
    have w15_τ16 : τ16.1 15 = σ.1 15 := hf_τ16.1 15 (by decide)
    have w16_τ16 : τ16.1 16 = σ.1 16 := hf_τ16.1 16 (by decide)
    have w21_τ16 : τ16.1 21 = σ.1 21 := hf_τ16.1 21 (by decide)
    have w22_τ16 : τ16.1 22 = σ.1 22 := hf_τ16.1 22 (by decide)
    have w23_τ16 : τ16.1 23 = σ.1 23 := hf_τ16.1 23 (by decide)
    have w24_τ16 : τ16.1 24 = σ.1 24 := hf_τ16.1 24 (by decide)
    have w25_τ16 : τ16.1 25 = σ.1 25 := hf_τ16.1 25 (by decide)
    have w26_τ16 : τ16.1 26 = σ.1 26 := hf_τ16.1 26 (by decide)
    have w27_τ16 : τ16.1 27 = σ.1 27 := hf_τ16.1 27 (by decide)
    have w35_τ16 : τ16.1 35 = σ.1 35 := hf_τ16.1 35 (by decide)
    have w37_τ16 : τ16.1 37 = σ.1 37 := hf_τ16.1 37 (by decide)
    have w38_τ16 : τ16.1 38 = σ.1 38 := hf_τ16.1 38 (by decide)
    have w39_τ16 : τ16.1 39 = σ.1 39 := hf_τ16.1 39 (by decide)
    have w66_τ16 : τ16.1 66 = σ.1 66 := hf_τ16.1 66 (by decide)
    have g2_τ16 : τ16.2.1 2 = σ.2.1 2 := hf_τ16.2.1 2 (by decide)
    have g3_τ16 : τ16.2.1 3 = σ.2.1 3 := hf_τ16.2.1 3 (by decide)
    have g4_τ16 : τ16.2.1 4 = σ.2.1 4 := hf_τ16.2.1 4 (by decide)
    have g5_τ16 : τ16.2.1 5 = σ.2.1 5 := hf_τ16.2.1 5 (by decide)
    have g6_τ16 : τ16.2.1 6 = σ.2.1 6 := hf_τ16.2.1 6 (by decide)
    have g9_τ16 : τ16.2.1 9 = σ.2.1 9 := hf_τ16.2.1 9 (by decide)
    have g13_τ16 : τ16.2.1 13 = σ.2.1 13 := hf_τ16.2.1 13 (by decide)
    have g18_τ16 : τ16.2.1 18 = σ.2.1 18 := hf_τ16.2.1 18 (by decide)
    have g19_τ16 : τ16.2.1 19 = σ.2.1 19 := hf_τ16.2.1 19 (by decide)
    have g20_τ16 : τ16.2.1 20 = σ.2.1 20 := hf_τ16.2.1 20 (by decide)
    have g22_τ16 : τ16.2.1 22 = σ.2.1 22 := hf_τ16.2.1 22 (by decide)
    have g25_τ16 : τ16.2.1 25 = σ.2.1 25 := hf_τ16.2.1 25 (by decide)
    have g26_τ16 : τ16.2.1 26 = σ.2.1 26 := hf_τ16.2.1 26 (by decide)
    have g27_τ16 : τ16.2.1 27 = σ.2.1 27 := hf_τ16.2.1 27 (by decide)
    have g28_τ16 : τ16.2.1 28 = σ.2.1 28 := hf_τ16.2.1 28 (by decide)
    have g29_τ16 : τ16.2.1 29 = σ.2.1 29 := hf_τ16.2.1 29 (by decide)
    have g30_τ16 : τ16.2.1 30 = σ.2.1 30 := hf_τ16.2.1 30 (by decide)
    have g31_τ16 : τ16.2.1 31 = σ.2.1 31 := hf_τ16.2.1 31 (by decide)
    have g32_τ16 : τ16.2.1 32 = σ.2.1 32 := hf_τ16.2.1 32 (by decide)
    have g33_τ16 : τ16.2.1 33 = σ.2.1 33 := hf_τ16.2.1 33 (by decide)
    have g34_τ16 : τ16.2.1 34 = σ.2.1 34 := hf_τ16.2.1 34 (by decide)
    have g35_τ16 : τ16.2.1 35 = σ.2.1 35 := hf_τ16.2.1 35 (by decide)
    have g36_τ16 : τ16.2.1 36 = σ.2.1 36 := hf_τ16.2.1 36 (by decide)
    have g37_τ16 : τ16.2.1 37 = σ.2.1 37 := hf_τ16.2.1 37 (by decide)
    have g44_τ16 : τ16.2.1 44 = σ.2.1 44 := hf_τ16.2.1 44 (by decide)
    have g45_τ16 : τ16.2.1 45 = σ.2.1 45 := hf_τ16.2.1 45 (by decide)
    have g49_τ16 : τ16.2.1 49 = σ.2.1 49 := hf_τ16.2.1 49 (by decide)
    have g51_τ16 : τ16.2.1 51 = σ.2.1 51 := hf_τ16.2.1 51 (by decide)
    have g54_τ16 : τ16.2.1 54 = σ.2.1 54 := hf_τ16.2.1 54 (by decide)
    have W7 : τ16.1 7 = σ.1 7 := by first | exact w7_τ16.trans W7 | omega
    have W9 : τ16.1 9 = σ.1 9 := by first | exact w9_τ16.trans W9 | omega
    have W11 : τ16.1 11 = σ.1 11 := by first | exact w11_τ16.trans W11 | omega
    have W12 : τ16.1 12 = σ.1 12 := by first | exact w12_τ16.trans W12 | omega
    have W13 : τ16.1 13 = σ.1 13 := by first | exact w13_τ16.trans W13 | omega
    have W14 : τ16.1 14 = σ.1 14 := by first | exact w14_τ16.trans W14 | omega
    have W15 : τ16.1 15 = σ.1 15 := by first | exact w15_τ16.trans W15 | omega
    have W16 : τ16.1 16 = σ.1 16 := by first | exact w16_τ16.trans W16 | omega
    have W21 : τ16.1 21 = σ.1 21 := by first | exact w21_τ16.trans W21 | omega
    have W22 : τ16.1 22 = σ.1 22 := by first | exact w22_τ16.trans W22 | omega
    have W23 : τ16.1 23 = σ.1 23 := by first | exact w23_τ16.trans W23 | omega
    have W24 : τ16.1 24 = σ.1 24 := by first | exact w24_τ16.trans W24 | omega
    have W25 : τ16.1 25 = σ.1 25 := by first | exact w25_τ16.trans W25 | omega
    have W26 : τ16.1 26 = σ.1 26 := by first | exact w26_τ16.trans W26 | omega
    have W27 : τ16.1 27 = σ.1 27 := by first | exact w27_τ16.trans W27 | omega
    have W37 : τ16.1 37 = σ.1 37 := by first | exact w37_τ16.trans W37 | omega
    have W38 : τ16.1 38 = σ.1 38 := by first | exact w38_τ16.trans W38 | omega
    have W39 : τ16.1 39 = σ.1 39 := by first | exact w39_τ16.trans W39 | omega
    have W66 : τ16.1 66 = σ.1 66 := by first | exact w66_τ16.trans W66 | omega
    have G13 : τ16.2.1 13 = σ.2.1 13 := (g13_τ16).trans G13
    have G19 : τ16.2.1 19 = σ.2.1 19 := (g19_τ16).trans G19
    have G22 : τ16.2.1 22 = σ.2.1 22 := (g22_τ16).trans G22
    have G25 : τ16.2.1 25 = σ.2.1 25 := (g25_τ16).trans G25
    have G26 : τ16.2.1 26 = σ.2.1 26 := (g26_τ16).trans G26
    have G27 : τ16.2.1 27 = σ.2.1 27 := (g27_τ16).trans G27
    have G28 : τ16.2.1 28 = σ.2.1 28 := (g28_τ16).trans G28
    have G29 : τ16.2.1 29 = σ.2.1 29 := (g29_τ16).trans G29
    have G30 : τ16.2.1 30 = σ.2.1 30 := (g30_τ16).trans G30
    have G31 : τ16.2.1 31 = σ.2.1 31 := (g31_τ16).trans G31
    have G32 : τ16.2.1 32 = σ.2.1 32 := (g32_τ16).trans G32
    have G33 : τ16.2.1 33 = σ.2.1 33 := (g33_τ16).trans G33
    have G34 : τ16.2.1 34 = σ.2.1 34 := (g34_τ16).trans G34
    have G35 : τ16.2.1 35 = σ.2.1 35 := (g35_τ16).trans G35
    have G36 : τ16.2.1 36 = σ.2.1 36 := (g36_τ16).trans G36
    have G37 : τ16.2.1 37 = σ.2.1 37 := (g37_τ16).trans G37
    have G44 : τ16.2.1 44 = σ.2.1 44 := (g44_τ16).trans G44
    have G45 : τ16.2.1 45 = σ.2.1 45 := (g45_τ16).trans G45
    have G49 : τ16.2.1 49 = σ.2.1 49 := (g49_τ16).trans G49
    have G51 : τ16.2.1 51 = σ.2.1 51 := (g51_τ16).trans G51
    have y36_15_τ16 : τ16.2.1 36 (τ16.1 15) = (σ.2.1 36) (σ.1 15) := by rw [g36_τ16, w15_τ16]
    have HT : J_ht (τ16.1 3) (τ16.2.1 2) (τ16.2.1 3) (τ16.2.1 5) (τ16.2.1 6) := by rw [show (J_ht (τ16.1 3) (τ16.2.1 2) (τ16.2.1 3) (τ16.2.1 5) (τ16.2.1 6)) = (J_ht (σ.1 3) (σ.2.1 2) (σ.2.1 3) (σ.2.1 5) (σ.2.1 6)) from by rw [w3_τ16, g2_τ16, g3_τ16, g5_τ16, g6_τ16]]; exact HT
    have NL : J_nl (τ16.1 3) (τ16.2.1 2) (τ16.2.1 3) (τ16.2.1 4) := by rw [show (J_nl (τ16.1 3) (τ16.2.1 2) (τ16.2.1 3) (τ16.2.1 4)) = (J_nl (σ.1 3) (σ.2.1 2) (σ.2.1 3) (σ.2.1 4)) from by rw [w3_τ16, g2_τ16, g3_τ16, g4_τ16]]; exact NL
    have MN : J_mn (τ16.1 3) (τ16.1 5) ((τ16.1 7) + 1) (τ16.2.1 4) := by rw [show (J_mn (τ16.1 3) (τ16.1 5) ((τ16.1 7) + 1) (τ16.2.1 4)) = (J_mn (σ.1 3) (σ.1 5) ((σ.1 7) + 1) (σ.2.1 4)) from by rw [w3_τ16, w5_τ16, w7_τ16, g4_τ16]]; exact MN
    have VA : J_va (τ16.1 8) 1000 (τ16.2.1 18) (τ16.2.1 20) := by rw [show (J_va (τ16.1 8) 1000 (τ16.2.1 18) (τ16.2.1 20)) = (J_va (σ.1 8) 1000 (σ.2.1 18) (σ.2.1 20)) from by rw [w8_τ16, g18_τ16, g20_τ16]]; exact VA
    have MK : J_mk (τ16.1 11) (τ16.1 8) (τ16.1 9) (τ16.1 10) (τ16.2.1 25) := by rw [show (J_mk (τ16.1 11) (τ16.1 8) (τ16.1 9) (τ16.1 10) (τ16.2.1 25)) = (J_mk (σ.1 11) (σ.1 8) (σ.1 9) (σ.1 10) (σ.2.1 25)) from by rw [w8_τ16, w9_τ16, w10_τ16, w11_τ16, g25_τ16]]; exact MK
    have MT : ∀ s : Int, τ16.2.1 26 s ≤ (τ16.1 12) := by rw [show (∀ s : Int, τ16.2.1 26 s ≤ (τ16.1 12)) = (∀ s : Int, σ.2.1 26 s ≤ (σ.1 12)) from by rw [w12_τ16, g26_τ16]]; exact MT
    have VS : J_vs (τ16.1 8) (τ16.1 5) (τ16.2.1 20) := by rw [show (J_vs (τ16.1 8) (τ16.1 5) (τ16.2.1 20)) = (J_vs (σ.1 8) (σ.1 5) (σ.2.1 20)) from by rw [w5_τ16, w8_τ16, g20_τ16]]; exact VS
    have TX : J_vs (τ16.1 6) (τ16.1 5) (τ16.2.1 15) := q14_2
    have RKS : J_rks (τ16.1 5) (τ16.1 4) (τ16.2.1 10) (τ16.2.1 11) := q14_3
    have BP : J_bp (τ16.2.1 44) (τ16.2.1 45) := by rw [show (J_bp (τ16.2.1 44) (τ16.2.1 45)) = (J_bp (σ.2.1 44) (σ.2.1 45)) from by rw [g44_τ16, g45_τ16]]; exact BP
    have CH : j_eq (σ.2.1 36 (σ.1 15)) (σ.2.1 37) (τ16.2.1 37) := by rw [show (j_eq (σ.2.1 36 (σ.1 15)) (σ.2.1 37) (τ16.2.1 37)) = (j_eq (σ.2.1 36 (σ.1 15)) (σ.2.1 37) (σ.2.1 37)) from by rw [g37_τ16]]; exact CH
    have HUs : J_hu (τ16.1 35) (τ16.1 13) (τ16.1 7) := by rw [show (J_hu (τ16.1 35) (τ16.1 13) (τ16.1 7)) = (J_hu (σ.1 35) (σ.1 13) (σ.1 7)) from by rw [w7_τ16, w13_τ16, w35_τ16]]; exact HUs
    have SPs : J_ss (τ16.1 35) (τ16.1 24) (τ16.1 21) (τ16.1 23) (τ16.1 22) (τ16.1 27) (τ16.1 26) (τ16.1 25) (τ16.1 16) (τ16.2.1 49) (τ16.2.1 51) := by rw [show (J_ss (τ16.1 35) (τ16.1 24) (τ16.1 21) (τ16.1 23) (τ16.1 22) (τ16.1 27) (τ16.1 26) (τ16.1 25) (τ16.1 16) (τ16.2.1 49) (τ16.2.1 51)) = (J_ss (σ.1 35) (σ.1 24) (σ.1 21) (σ.1 23) (σ.1 22) (σ.1 27) (σ.1 26) (σ.1 25) (σ.1 16) (σ.2.1 49) (σ.2.1 51)) from by rw [w16_τ16, w21_τ16, w22_τ16, w23_τ16, w24_τ16, w25_τ16, w26_τ16, w27_τ16, w35_τ16, g49_τ16, g51_τ16]]; exact SPs
    have A2 : ∀ j, 0 ≤ τ16.2.1 2 j ∧ τ16.2.1 2 j ≤ 65535 := fun j => hT.2 2 j
    have A3 : ∀ j, 0 ≤ τ16.2.1 3 j ∧ τ16.2.1 3 j ≤ 30000 := fun j => hT.2 3 j
    have A4 : ∀ j, (-1000) ≤ τ16.2.1 4 j ∧ τ16.2.1 4 j ≤ 1499 := fun j => hT.2 4 j
    have A5 : ∀ j, 0 ≤ τ16.2.1 5 j ∧ τ16.2.1 5 j ≤ 2500 := fun j => hT.2 5 j
    have A6 : ∀ j, 0 ≤ τ16.2.1 6 j ∧ τ16.2.1 6 j ≤ 2500 := fun j => hT.2 6 j
    have A9 : ∀ j, (-1) ≤ τ16.2.1 9 j ∧ τ16.2.1 9 j ≤ 1499 := fun j => hT.2 9 j
    have A10 : ∀ j, (-1) ≤ τ16.2.1 10 j ∧ τ16.2.1 10 j ≤ 99 := fun j => hT.2 10 j
    have A11 : ∀ j, 0 ≤ τ16.2.1 11 j ∧ τ16.2.1 11 j ≤ 999 := fun j => hT.2 11 j
    have A13 : ∀ j, 0 ≤ τ16.2.1 13 j ∧ τ16.2.1 13 j ≤ 4 := fun j => hT.2 13 j
    have A14 : ∀ j, 0 ≤ τ16.2.1 14 j ∧ τ16.2.1 14 j ≤ 30000 := fun j => hT.2 14 j
    have A15 : ∀ j, 0 ≤ τ16.2.1 15 j ∧ τ16.2.1 15 j ≤ 999 := fun j => hT.2 15 j
    have A16 : ∀ j, (-1) ≤ τ16.2.1 16 j ∧ τ16.2.1 16 j ≤ 1499 := fun j => hT.2 16 j
    have A18 : ∀ j, 0 ≤ τ16.2.1 18 j ∧ τ16.2.1 18 j ≤ 1 := fun j => hT.2 18 j
    have A19 : ∀ j, (-1) ≤ τ16.2.1 19 j ∧ τ16.2.1 19 j ≤ 1499 := fun j => hT.2 19 j
    have A20 : ∀ j, 0 ≤ τ16.2.1 20 j ∧ τ16.2.1 20 j ≤ 999 := fun j => hT.2 20 j
    have A22 : ∀ j, 0 ≤ τ16.2.1 22 j ∧ τ16.2.1 22 j ≤ 1499 := fun j => hT.2 22 j
    have A26 : ∀ j, (-2147483648) ≤ τ16.2.1 26 j ∧ τ16.2.1 26 j ≤ 2147483647 := fun j => hT.2 26 j
    have A27 : ∀ j, 0 ≤ τ16.2.1 27 j ∧ τ16.2.1 27 j ≤ 90000 := fun j => hT.2 27 j
    have A28 : ∀ j, 0 ≤ τ16.2.1 28 j ∧ τ16.2.1 28 j ≤ 60 := fun j => hT.2 28 j
    have A29 : ∀ j, 0 ≤ τ16.2.1 29 j ∧ τ16.2.1 29 j ≤ 1499 := fun j => hT.2 29 j
    have A30 : ∀ j, 0 ≤ τ16.2.1 30 j ∧ τ16.2.1 30 j ≤ 20000 := fun j => hT.2 30 j
    have A31 : ∀ j, 0 ≤ τ16.2.1 31 j ∧ τ16.2.1 31 j ≤ 20000 := fun j => hT.2 31 j
    have A32 : ∀ j, 0 ≤ τ16.2.1 32 j ∧ τ16.2.1 32 j ≤ 999999 := fun j => hT.2 32 j
    have A33 : ∀ j, 0 ≤ τ16.2.1 33 j ∧ τ16.2.1 33 j ≤ 20000 := fun j => hT.2 33 j
    have A34 : ∀ j, 0 ≤ τ16.2.1 34 j ∧ τ16.2.1 34 j ≤ 20000 := fun j => hT.2 34 j
    have A35 : ∀ j, 0 ≤ τ16.2.1 35 j ∧ τ16.2.1 35 j ≤ 1499 := fun j => hT.2 35 j
    have A36 : ∀ j, 0 ≤ τ16.2.1 36 j ∧ τ16.2.1 36 j ≤ 20000 := fun j => hT.2 36 j
    have A37 : ∀ j, 0 ≤ τ16.2.1 37 j ∧ τ16.2.1 37 j ≤ 19999 := fun j => hT.2 37 j
    have A44 : ∀ j, 0 ≤ τ16.2.1 44 j ∧ τ16.2.1 44 j ≤ 42000 := fun j => hT.2 44 j
    have A45 : ∀ j, 0 ≤ τ16.2.1 45 j ∧ τ16.2.1 45 j ≤ 1000 := fun j => hT.2 45 j
    have A49 : ∀ j, (-300) ≤ τ16.2.1 49 j ∧ τ16.2.1 49 j ≤ 67035 := fun j => hT.2 49 j
    have A51 : ∀ j, 0 ≤ τ16.2.1 51 j ∧ τ16.2.1 51 j ≤ 1499 := fun j => hT.2 51 j
    have A54 : ∀ j, 0 ≤ τ16.2.1 54 j ∧ τ16.2.1 54 j ≤ 999 := fun j => hT.2 54 j
    have v3 : 0 ≤ τ16.1 3 ∧ τ16.1 3 ≤ 2500 := hT.1 3
    have v4 : 0 ≤ τ16.1 4 ∧ τ16.1 4 ≤ 100 := hT.1 4
    have v5 : 0 ≤ τ16.1 5 ∧ τ16.1 5 ≤ 1000 := hT.1 5
    have v6 : 0 ≤ τ16.1 6 ∧ τ16.1 6 ≤ 30000 := hT.1 6
    have v7 : 0 ≤ τ16.1 7 ∧ τ16.1 7 ≤ 1500 := hT.1 7
    have v8 : 0 ≤ τ16.1 8 ∧ τ16.1 8 ≤ 1000 := hT.1 8
    have v9 : 0 ≤ τ16.1 9 ∧ τ16.1 9 ≤ 1500 := hT.1 9
    have v10 : 0 ≤ τ16.1 10 ∧ τ16.1 10 ≤ 1000 := hT.1 10
    have v11 : 0 ≤ τ16.1 11 ∧ τ16.1 11 ≤ 50 := hT.1 11
    have v12 : (-2147483648) ≤ τ16.1 12 ∧ τ16.1 12 ≤ 2147483647 := hT.1 12
    have v13 : 0 ≤ τ16.1 13 ∧ τ16.1 13 ≤ 90000 := hT.1 13
    have v14 : 0 ≤ τ16.1 14 ∧ τ16.1 14 ≤ 20000 := hT.1 14
    have v15 : 0 ≤ τ16.1 15 ∧ τ16.1 15 ≤ 20000 := hT.1 15
    have v16 : 0 ≤ τ16.1 16 ∧ τ16.1 16 ≤ 20000 := hT.1 16
    have v21 : 0 ≤ τ16.1 21 ∧ τ16.1 21 ≤ 20000 := hT.1 21
    have v22 : 0 ≤ τ16.1 22 ∧ τ16.1 22 ≤ 300 := hT.1 22
    have v23 : 0 ≤ τ16.1 23 ∧ τ16.1 23 ≤ 300 := hT.1 23
    have v24 : 0 ≤ τ16.1 24 ∧ τ16.1 24 ≤ 1499 := hT.1 24
    have v25 : 0 ≤ τ16.1 25 ∧ τ16.1 25 ≤ 3 := hT.1 25
    have v26 : 0 ≤ τ16.1 26 ∧ τ16.1 26 ≤ 5000010 := hT.1 26
    have v27 : 0 ≤ τ16.1 27 ∧ τ16.1 27 ≤ 1 := hT.1 27
    have v35 : 0 ≤ τ16.1 35 ∧ τ16.1 35 ≤ 7 := hT.1 35
    have v36 : 0 ≤ τ16.1 36 ∧ τ16.1 36 ≤ 1001 := hT.1 36
    have v37 : 0 ≤ τ16.1 37 ∧ τ16.1 37 ≤ 4 := hT.1 37
    have v38 : (-1) ≤ τ16.1 38 ∧ τ16.1 38 ≤ 999 := hT.1 38
    have v39 : (-1) ≤ τ16.1 39 ∧ τ16.1 39 ≤ 1499 := hT.1 39
    have v66 : 0 ≤ τ16.1 66 ∧ τ16.1 66 ≤ 1 := hT.1 66
    have a14_7 : 0 ≤ τ16.2.1 14 (τ16.1 7) ∧ τ16.2.1 14 (τ16.1 7) ≤ 30000 := hT.2 14 _
    have a36_15 : 0 ≤ τ16.2.1 36 (τ16.1 15) ∧ τ16.2.1 36 (τ16.1 15) ≤ 20000 := hT.2 36 _
    have av3 : σ.1 3 ≤ τ16.1 3 := ag.1 3 (by decide)
    have av5 : σ.1 5 ≤ τ16.1 5 := ag.1 5 (by decide)
    have av6 : σ.1 6 ≤ τ16.1 6 := ag.1 6 (by decide)
    have a14 := ag_k ag 14 7 1 (by decide) (σ.1 7) (by omega)
    exact ⟨hT, (show 0 ≤ x15 ∧ x15 ≤ 19 from by (first | assumption | omega | (simp only [st_s] <;> omega) | fail)), (show J_ht (τ16.1 3) (τ16.2.1 2) (τ16.2.1 3) (τ16.2.1 5) (τ16.2.1 6) from HT), (show J_mn (τ16.1 3) (τ16.1 5) ((τ16.1 7) + 1) (τ16.2.1 4) from MN), (show J_rks (τ16.1 5) (τ16.1 4) (τ16.2.1 10) (τ16.2.1 11) from RKS), (show J_vs (τ16.1 8) (τ16.1 5) (τ16.2.1 20) from VS), (show J_vs (τ16.1 6) (τ16.1 5) (τ16.2.1 15) from TX), (show J_va (τ16.1 8) 1000 (τ16.2.1 18) (τ16.2.1 20) from VA), (show J_mk (τ16.1 11) (τ16.1 8) (τ16.1 9) (τ16.1 10) (τ16.2.1 25) from MK), (show J_sc (τ16.1 7) (τ16.1 9) (τ16.2.1 13) (τ16.2.1 14) (τ16.2.1 15) (τ16.2.1 16) (τ16.2.1 22) (τ16.2.1 19) from by (first | exact SC | exact c_S_ag SC_0 CJ_0 hT0 ag W9 G22 G19 | fail)), (show J_ff (τ16.1 5) (τ16.1 7) (τ16.2.1 9) (τ16.2.1 13) (τ16.2.1 14) (τ16.2.1 15) from by (first | exact FF | exact c_F_ag FF_0 CJ_0 ag (by omega) (by rw [g9_τ16]) | fail)), (show ∀ s : Int, τ16.2.1 26 s ≤ (τ16.1 12) from MT), (show J_all (τ16.1 7) (τ16.1 6) (τ16.1 13) (τ16.1 14) (τ16.1 15) (τ16.2.1 13) (τ16.2.1 14) (τ16.2.1 15) (τ16.2.1 16) (τ16.2.1 10) (τ16.2.1 27) (τ16.2.1 28) (τ16.2.1 29) (τ16.2.1 30) (τ16.2.1 31) (τ16.2.1 32) (τ16.2.1 33) (τ16.2.1 34) (τ16.2.1 35) (τ16.2.1 36) (τ16.2.1 37) from by (first | exact CJ | exact c_J_ag CJ_0 hT0 ag (by omega) (by first | exact j_rr0 _ _ | (rw [g10_τ4]; exact j_rr0 _ _) | (rw [g10_τ13]; exact j_rr0 _ _) | (rw [G10]; exact j_rr0 _ _) | exact q5_8 | exact q8_10 | exact q14_4) TX_0 CH (by omega) | fail)), (show J_bp (τ16.2.1 44) (τ16.2.1 45) from BP), (show J_nl (τ16.1 3) (τ16.2.1 2) (τ16.2.1 3) (τ16.2.1 4) from NL), (show x15 = 0 → J_rs (τ16.1 35) (τ16.1 7) (τ16.1 6) (τ16.1 36) (τ16.1 37) (τ16.1 5) (τ16.1 8) (τ16.2.1 14) from by (first | exact fun z => absurd z (by decide) | (intro z; have w := q2_2 z; have rs := p14; unfold J_rs at rs ⊢; rw [show (s_v τ4 35 1).1 35 = 1 from rfl] at *; omega) | (intro z; have w := q2_2 z; have rs := J_rs_0 p14 (by omega); unfold J_rs; rw [g14_τ4, w7_τ4]; omega) | (intro z; have w := q5_9 z; have rs := J_rs_0 p14 (by omega); unfold J_rs; rw [g14_τ7, w7_τ7]; omega) | (intro z; have w := q8_11 z; have rs := J_rs_0 p14 (by omega); unfold J_rs; rw [g14_τ10, w7_τ10]; omega) | (intro z; have rs := J_rs_0 p14 (by omega); unfold J_rs; rw [g14_τ13, w7_τ13]; omega) | (intro z; have w1 := q14_5 z; have w2 := q14_7 z; have w3 := q14_8 z; have w4 := J_rs_4 p14 (by omega); rw [show τ16.1 7 = σ.1 7 from by omega] at w1; unfold J_rs; rw [show τ16.1 7 = σ.1 7 from by omega]; omega) | fail)), (show x15 = 0 → J_uc (τ16.1 35) (τ16.1 36) (τ16.2.1 10 (τ16.2.1 15 (τ16.2.1 14 (τ16.1 7)))) from by (first | exact fun z => absurd z (by decide) | (intro z y; exfalso; omega) | (intro z y y2; exact q14_6 z) | fail)), (show x15 = 0 → J_dj (τ16.1 35) (τ16.1 36) (τ16.2.1 54) from by (first | exact fun z => absurd z (by decide) | (intro z y; exfalso; omega) | (intro z y; exact q11_2 z) | fail)), (show x15 = 0 → J_it (τ16.1 35) (τ16.1 7) (τ16.1 6) (τ16.1 37) (τ16.2.1 14) (τ16.2.1 15) (τ16.2.1 16) (τ16.2.1 19) from by (first | exact fun z => absurd z (by decide) | (intro z y; exfalso; omega) | (intro z y; exact q14_9 z) | fail)), (show x15 = 0 → J_hu (τ16.1 35) (τ16.1 13) (τ16.1 7) from by (first | exact fun z => absurd z (by decide) | exact fun _ => HUs | (intro z; have hu := hux; unfold J_hu at hu ⊢; omega) | fail)), (show x15 = 0 → J_ft (τ16.1 35) (τ16.1 24) (τ16.1 7) (τ16.1 13) (τ16.1 14) (τ16.2.1 13) (τ16.2.1 14) (τ16.2.1 15) (τ16.2.1 16) (τ16.2.1 27) (τ16.2.1 28) (τ16.2.1 29) (τ16.2.1 30) (τ16.2.1 31) (τ16.2.1 32) from by (first | exact fun z => absurd z (by decide) | (intro z y; exfalso; omega) | exact fun _ => FRs | exact fun _ => frx | (intro z y; exact frx (by omega)) | (intro z y; have w := frx (by omega); rw [W7, W13, W14, W24, G13, G14, G15, G16, G27, G28, G29, G30, G31, G32]; exact w) | fail)), (show x15 = 0 → J_ss (τ16.1 35) (τ16.1 24) (τ16.1 21) (τ16.1 23) (τ16.1 22) (τ16.1 27) (τ16.1 26) (τ16.1 25) (τ16.1 16) (τ16.2.1 49) (τ16.2.1 51) from by (first | exact fun z => absurd z (by decide) | (intro z y; exfalso; omega) | exact fun _ => SPs | exact fun _ => spx | (intro z y; exact spx (by omega)) | fail)), (show x15 = 0 → (τ16.1 15) ≤ (τ16.1 16) ∧ τ16.2.1 36 (τ16.1 15) ≤ (τ16.1 16) from by (intro z; first | exact sux | omega)), (show x15 = 0 → (τ16.1 9) ≤ (τ16.1 7) from by (intro z; omega)), (show j_rr ((σ.1 5)) (σ.2.1 10) (τ16.2.1 10) from by (first | exact j_rr0 _ _ | (rw [g10_τ4]; exact j_rr0 _ _) | (rw [g10_τ13]; exact j_rr0 _ _) | (rw [G10]; exact j_rr0 _ _) | exact q5_8 | exact q8_10 | exact q14_4 | fail)), (show j_eq (σ.2.1 36 (σ.1 15)) (σ.2.1 37) (τ16.2.1 37) from CH), (show (τ16.1 12) ≤ (σ.1 12) + 1 from by (first | assumption | omega | (simp only [st_s] <;> omega) | fail)), (show c_Y σ τ16 from by (first | exact c_Y0 _ | exact q8_12 | exact q14_10 | exact c_Y_g W4 G11 G20 G22 G25 | exact c_Y_g (by omega) (by rw [g11_τ4]) (by rw [g20_τ4]) (by rw [g22_τ4]) (by rw [g25_τ4]) | exact c_Y_g (by omega) (by rw [g11_τ7]) (by rw [g20_τ7]) (by rw [g22_τ7]) (by rw [g25_τ7]) | exact c_Y_g (by omega) (by rw [g11_τ13]) (by rw [g20_τ13]) (by rw [g22_τ13]) (by rw [g25_τ13]) | fail)), (show j_nm σ τ16 from by (first | exact j_nm0 _ | exact (show j_nm σ τ4 from q2_6) | exact (show j_nm σ τ7 from q5_11) | exact (show j_nm σ τ10 from q8_14) | exact (show j_nm σ τ13 from j_nm_h hf_τ13 rfl) | exact (show j_nm σ τ16 from j_nm_h hf_τ16 rfl) | fail)), ag⟩
set_option maxHeartbeats 1000000 in
theorem K2_X7_statement {n1 : Int} {σ : S0} (hT : c_T σ) : W_X7_statement n1 σ (fun (x : Int) (τ : S0) => (c_T τ) ∧ (x = 0) ∧ ((τ.1 36) = 0) ∧ ((τ.1 35) = 5) ∧ ((τ.1 37) ≤ 3)) := by
  have v35 : 0 ≤ σ.1 35 ∧ σ.1 35 ≤ 7 := hT.1 35
  have v36 : 0 ≤ σ.1 36 ∧ σ.1 36 ≤ 1001 := hT.1 36
  have v37 : 0 ≤ σ.1 37 ∧ σ.1 37 ≤ 4 := hT.1 37
  intro P42 h42
  replace hT := cT_v (i := 36) hT (show (0 : Int) ≤ 0 ∧ 0 ≤ 1001 from by (first | assumption | omega | (simp only [st_s] <;> omega) | fail))
  replace hT := cT_v (i := 35) hT (show (0 : Int) ≤ 5 ∧ 5 ≤ 7 from by (first | assumption | omega | (simp only [st_s] <;> omega) | fail))
  refine ⟨fun c1 => ?_, fun c1 => ?_⟩
  ·
    refine ⟨fun c2 => ?_, fun c2 => ?_⟩
    ·
      refine ⟨fun c3 => ?_, fun c3 => ?_⟩
      ·
        obtain ⟨τ_42, e_τ_42⟩ : ∃ z : S0, z = s_v (s_v σ 36 0) 35 5 := ⟨_, rfl⟩
        rw [← e_τ_42]
        replace hT : c_T τ_42 := by rw [e_τ_42]; exact hT
        have w35_τ_42 : τ_42.1 35 = 5 := by rw [e_τ_42]; rfl
        have w36_τ_42 : τ_42.1 36 = 0 := by rw [e_τ_42]; rfl
        have w37_τ_42 : τ_42.1 37 = σ.1 37 := by rw [e_τ_42]; rfl
        have v35 : 0 ≤ τ_42.1 35 ∧ τ_42.1 35 ≤ 7 := hT.1 35
        have v36 : 0 ≤ τ_42.1 36 ∧ τ_42.1 36 ≤ 1001 := hT.1 36
        have v37 : 0 ≤ τ_42.1 37 ∧ τ_42.1 37 ≤ 4 := hT.1 37
        refine h42 _ _ ?_
        replace hT := cT_v (i := 37) hT (show (0 : Int) ≤ 3 ∧ 3 ≤ 4 from by (first | assumption | omega | (simp only [st_s] <;> omega) | fail))
        exact ⟨hT, (show 0 = 0 from by (first | assumption | omega | (simp only [st_s] <;> omega) | fail)), (show (τ_42.1 36) = 0 from by (first | assumption | omega | (simp only [st_s] <;> omega) | fail)), (show (τ_42.1 35) = 5 from by (first | assumption | omega | (simp only [st_s] <;> omega) | fail)), (show (3) ≤ 3 from by (first | assumption | omega | (simp only [st_s] <;> omega) | fail))⟩
      ·
        obtain ⟨τ_42, e_τ_42⟩ : ∃ z : S0, z = s_v (s_v σ 36 0) 35 5 := ⟨_, rfl⟩
        rw [← e_τ_42]
        replace hT : c_T τ_42 := by rw [e_τ_42]; exact hT
        have w35_τ_42 : τ_42.1 35 = 5 := by rw [e_τ_42]; rfl
        have w36_τ_42 : τ_42.1 36 = 0 := by rw [e_τ_42]; rfl
        have w37_τ_42 : τ_42.1 37 = σ.1 37 := by rw [e_τ_42]; rfl
        have v35 : 0 ≤ τ_42.1 35 ∧ τ_42.1 35 ≤ 7 := hT.1 35
        have v36 : 0 ≤ τ_42.1 36 ∧ τ_42.1 36 ≤ 1001 := hT.1 36
        have v37 : 0 ≤ τ_42.1 37 ∧ τ_42.1 37 ≤ 4 := hT.1 37
        refine h42 _ _ ?_
        replace hT := cT_v (i := 37) hT (show (0 : Int) ≤ 2 ∧ 2 ≤ 4 from by (first | assumption | omega | (simp only [st_s] <;> omega) | fail))
        exact ⟨hT, (show 0 = 0 from by (first | assumption | omega | (simp only [st_s] <;> omega) | fail)), (show (τ_42.1 36) = 0 from by (first | assumption | omega | (simp only [st_s] <;> omega) | fail)), (show (τ_42.1 35) = 5 from by (first | assumption | omega | (simp only [st_s] <;> omega) | fail)), (show (2) ≤ 3 from by (first | assumption | omega | (simp only [st_s] <;> omega) | fail))⟩
    ·
      obtain ⟨τ_42, e_τ_42⟩ : ∃ z : S0, z = s_v (s_v σ 36 0) 35 5 := ⟨_, rfl⟩
      rw [← e_τ_42]
      replace hT : c_T τ_42 := by rw [e_τ_42]; exact hT
      have w35_τ_42 : τ_42.1 35 = 5 := by rw [e_τ_42]; rfl
      have w36_τ_42 : τ_42.1 36 = 0 := by rw [e_τ_42]; rfl
      have w37_τ_42 : τ_42.1 37 = σ.1 37 := by rw [e_τ_42]; rfl
      have v35 : 0 ≤ τ_42.1 35 ∧ τ_42.1 35 ≤ 7 := hT.1 35
      have v36 : 0 ≤ τ_42.1 36 ∧ τ_42.1 36 ≤ 1001 := hT.1 36
      have v37 : 0 ≤ τ_42.1 37 ∧ τ_42.1 37 ≤ 4 := hT.1 37
      refine h42 _ _ ?_
      replace hT := cT_v (i := 37) hT (show (0 : Int) ≤ 1 ∧ 1 ≤ 4 from by (first | assumption | omega | (simp only [st_s] <;> omega) | fail))
      exact ⟨hT, (show 0 = 0 from by (first | assumption | omega | (simp only [st_s] <;> omega) | fail)), (show (τ_42.1 36) = 0 from by (first | assumption | omega | (simp only [st_s] <;> omega) | fail)), (show (τ_42.1 35) = 5 from by (first | assumption | omega | (simp only [st_s] <;> omega) | fail)), (show (1) ≤ 3 from by (first | assumption | omega | (simp only [st_s] <;> omega) | fail))⟩
  ·
    obtain ⟨τ_42, e_τ_42⟩ : ∃ z : S0, z = s_v (s_v σ 36 0) 35 5 := ⟨_, rfl⟩
    rw [← e_τ_42]
    replace hT : c_T τ_42 := by rw [e_τ_42]; exact hT
    have w35_τ_42 : τ_42.1 35 = 5 := by rw [e_τ_42]; rfl
    have w36_τ_42 : τ_42.1 36 = 0 := by rw [e_τ_42]; rfl
    have w37_τ_42 : τ_42.1 37 = σ.1 37 := by rw [e_τ_42]; rfl
    have v35 : 0 ≤ τ_42.1 35 ∧ τ_42.1 35 ≤ 7 := hT.1 35
    have v36 : 0 ≤ τ_42.1 36 ∧ τ_42.1 36 ≤ 1001 := hT.1 36
    have v37 : 0 ≤ τ_42.1 37 ∧ τ_42.1 37 ≤ 4 := hT.1 37
    refine h42 _ _ ?_
    replace hT := cT_v (i := 37) hT (show (0 : Int) ≤ 0 ∧ 0 ≤ 4 from by (first | assumption | omega | (simp only [st_s] <;> omega) | fail))
    exact ⟨hT, (show 0 = 0 from by (first | assumption | omega | (simp only [st_s] <;> omega) | fail)), (show (τ_42.1 36) = 0 from by (first | assumption | omega | (simp only [st_s] <;> omega) | fail)), (show (τ_42.1 35) = 5 from by (first | assumption | omega | (simp only [st_s] <;> omega) | fail)), (show (0) ≤ 3 from by (first | assumption | omega | (simp only [st_s] <;> omega) | fail))⟩
set_option maxHeartbeats 1000000 in
theorem K2_X7_declaration {n1 : Int} {σ : S0} (hT : c_T σ) : W_X7_declaration n1 σ (fun (x : Int) (τ : S0) => (c_T τ) ∧ (0 ≤ x ∧ x ≤ 19) ∧ (x = 0 → (τ.1 36) = 0 ∧ 2 ≤ (τ.1 35) ∧ (τ.1 35) ≤ 4)) := by
  have v11 : 0 ≤ σ.1 11 ∧ σ.1 11 ≤ 50 := hT.1 11
  have v35 : 0 ≤ σ.1 35 ∧ σ.1 35 ≤ 7 := hT.1 35
  have v36 : 0 ≤ σ.1 36 ∧ σ.1 36 ≤ 1001 := hT.1 36
  have W11 : σ.1 11 = σ.1 11 := rfl
  intro P19 P46 h19 h46
  refine ⟨fun c1 => ?_, fun c1 => ?_⟩
  ·
    refine h19 _ _ ?_
    replace hT := cT_v (i := 36) hT (show (0 : Int) ≤ 0 ∧ 0 ≤ 1001 from by (first | assumption | omega | (simp only [st_s] <;> omega) | fail))
    refine ⟨fun c3 => ?_, fun c3 => ?_⟩
    ·
      refine ⟨fun c4 => ?_, fun c4 => ?_⟩
      ·
        obtain ⟨τ_46, e_τ_46⟩ : ∃ z : S0, z = s_v σ 36 0 := ⟨_, rfl⟩
        rw [← e_τ_46]
        replace hT : c_T τ_46 := by rw [e_τ_46]; exact hT
        have w11_τ_46 : τ_46.1 11 = σ.1 11 := by rw [e_τ_46]; rfl
        have w35_τ_46 : τ_46.1 35 = σ.1 35 := by rw [e_τ_46]; rfl
        have w36_τ_46 : τ_46.1 36 = 0 := by rw [e_τ_46]; rfl
        have W11 : τ_46.1 11 = σ.1 11 := by first | exact w11_τ_46.trans W11 | omega
        have v11 : 0 ≤ τ_46.1 11 ∧ τ_46.1 11 ≤ 50 := hT.1 11
        have v35 : 0 ≤ τ_46.1 35 ∧ τ_46.1 35 ≤ 7 := hT.1 35
        have v36 : 0 ≤ τ_46.1 36 ∧ τ_46.1 36 ≤ 1001 := hT.1 36
        refine h46 _ _ ?_
        replace hT := cT_v (i := 35) hT (show (0 : Int) ≤ 4 ∧ 4 ≤ 7 from by (first | assumption | omega | (simp only [st_s] <;> omega) | fail))
        exact ⟨hT, (show 0 ≤ 0 ∧ 0 ≤ 19 from by (first | assumption | omega | (simp only [st_s] <;> omega) | fail)), (show 0 = 0 → (τ_46.1 36) = 0 ∧ 2 ≤ (4) ∧ (4) ≤ 4 from by (first | assumption | omega | (simp only [st_s] <;> omega) | fail))⟩
      ·
        obtain ⟨τ_46, e_τ_46⟩ : ∃ z : S0, z = s_v σ 36 0 := ⟨_, rfl⟩
        rw [← e_τ_46]
        replace hT : c_T τ_46 := by rw [e_τ_46]; exact hT
        have w11_τ_46 : τ_46.1 11 = σ.1 11 := by rw [e_τ_46]; rfl
        have w35_τ_46 : τ_46.1 35 = σ.1 35 := by rw [e_τ_46]; rfl
        have w36_τ_46 : τ_46.1 36 = 0 := by rw [e_τ_46]; rfl
        have W11 : τ_46.1 11 = σ.1 11 := by first | exact w11_τ_46.trans W11 | omega
        have v11 : 0 ≤ τ_46.1 11 ∧ τ_46.1 11 ≤ 50 := hT.1 11
        have v35 : 0 ≤ τ_46.1 35 ∧ τ_46.1 35 ≤ 7 := hT.1 35
        have v36 : 0 ≤ τ_46.1 36 ∧ τ_46.1 36 ≤ 1001 := hT.1 36
        refine h46 _ _ ?_
        replace hT := cT_v (i := 35) hT (show (0 : Int) ≤ 3 ∧ 3 ≤ 7 from by (first | assumption | omega | (simp only [st_s] <;> omega) | fail))
        exact ⟨hT, (show 0 ≤ 0 ∧ 0 ≤ 19 from by (first | assumption | omega | (simp only [st_s] <;> omega) | fail)), (show 0 = 0 → (τ_46.1 36) = 0 ∧ 2 ≤ (3) ∧ (3) ≤ 4 from by (first | assumption | omega | (simp only [st_s] <;> omega) | fail))⟩
    ·
      obtain ⟨τ_46, e_τ_46⟩ : ∃ z : S0, z = s_v σ 36 0 := ⟨_, rfl⟩
      rw [← e_τ_46]
      replace hT : c_T τ_46 := by rw [e_τ_46]; exact hT
      have w11_τ_46 : τ_46.1 11 = σ.1 11 := by rw [e_τ_46]; rfl
      have w35_τ_46 : τ_46.1 35 = σ.1 35 := by rw [e_τ_46]; rfl
      have w36_τ_46 : τ_46.1 36 = 0 := by rw [e_τ_46]; rfl
      have W11 : τ_46.1 11 = σ.1 11 := by first | exact w11_τ_46.trans W11 | omega
      have v11 : 0 ≤ τ_46.1 11 ∧ τ_46.1 11 ≤ 50 := hT.1 11
      have v35 : 0 ≤ τ_46.1 35 ∧ τ_46.1 35 ≤ 7 := hT.1 35
      have v36 : 0 ≤ τ_46.1 36 ∧ τ_46.1 36 ≤ 1001 := hT.1 36
      refine h46 _ _ ?_
      replace hT := cT_v (i := 35) hT (show (0 : Int) ≤ 2 ∧ 2 ≤ 7 from by (first | assumption | omega | (simp only [st_s] <;> omega) | fail))
      exact ⟨hT, (show 0 ≤ 0 ∧ 0 ≤ 19 from by (first | assumption | omega | (simp only [st_s] <;> omega) | fail)), (show 0 = 0 → (τ_46.1 36) = 0 ∧ 2 ≤ (2) ∧ (2) ≤ 4 from by (first | assumption | omega | (simp only [st_s] <;> omega) | fail))⟩
  ·
    refine ⟨fun c2 => ?_, fun c2 => ?_⟩
    ·
      refine h19 _ _ ?_
      replace hT := cT_v (i := 36) hT (show (0 : Int) ≤ 0 ∧ 0 ≤ 1001 from by (first | assumption | omega | (simp only [st_s] <;> omega) | fail))
      refine ⟨fun c3 => ?_, fun c3 => ?_⟩
      ·
        refine ⟨fun c4 => ?_, fun c4 => ?_⟩
        ·
          obtain ⟨τ_46, e_τ_46⟩ : ∃ z : S0, z = s_v σ 36 0 := ⟨_, rfl⟩
          rw [← e_τ_46]
          replace hT : c_T τ_46 := by rw [e_τ_46]; exact hT
          have w11_τ_46 : τ_46.1 11 = σ.1 11 := by rw [e_τ_46]; rfl
          have w35_τ_46 : τ_46.1 35 = σ.1 35 := by rw [e_τ_46]; rfl
          have w36_τ_46 : τ_46.1 36 = 0 := by rw [e_τ_46]; rfl
          have W11 : τ_46.1 11 = σ.1 11 := by first | exact w11_τ_46.trans W11 | omega
          have v11 : 0 ≤ τ_46.1 11 ∧ τ_46.1 11 ≤ 50 := hT.1 11
          have v35 : 0 ≤ τ_46.1 35 ∧ τ_46.1 35 ≤ 7 := hT.1 35
          have v36 : 0 ≤ τ_46.1 36 ∧ τ_46.1 36 ≤ 1001 := hT.1 36
          refine h46 _ _ ?_
          replace hT := cT_v (i := 35) hT (show (0 : Int) ≤ 4 ∧ 4 ≤ 7 from by (first | assumption | omega | (simp only [st_s] <;> omega) | fail))
          exact ⟨hT, (show 0 ≤ 0 ∧ 0 ≤ 19 from by (first | assumption | omega | (simp only [st_s] <;> omega) | fail)), (show 0 = 0 → (τ_46.1 36) = 0 ∧ 2 ≤ (4) ∧ (4) ≤ 4 from by (first | assumption | omega | (simp only [st_s] <;> omega) | fail))⟩
        ·
          obtain ⟨τ_46, e_τ_46⟩ : ∃ z : S0, z = s_v σ 36 0 := ⟨_, rfl⟩
          rw [← e_τ_46]
          replace hT : c_T τ_46 := by rw [e_τ_46]; exact hT
          have w11_τ_46 : τ_46.1 11 = σ.1 11 := by rw [e_τ_46]; rfl
          have w35_τ_46 : τ_46.1 35 = σ.1 35 := by rw [e_τ_46]; rfl
          have w36_τ_46 : τ_46.1 36 = 0 := by rw [e_τ_46]; rfl
          have W11 : τ_46.1 11 = σ.1 11 := by first | exact w11_τ_46.trans W11 | omega
          have v11 : 0 ≤ τ_46.1 11 ∧ τ_46.1 11 ≤ 50 := hT.1 11
          have v35 : 0 ≤ τ_46.1 35 ∧ τ_46.1 35 ≤ 7 := hT.1 35
          have v36 : 0 ≤ τ_46.1 36 ∧ τ_46.1 36 ≤ 1001 := hT.1 36
          refine h46 _ _ ?_
          replace hT := cT_v (i := 35) hT (show (0 : Int) ≤ 3 ∧ 3 ≤ 7 from by (first | assumption | omega | (simp only [st_s] <;> omega) | fail))
          exact ⟨hT, (show 0 ≤ 0 ∧ 0 ≤ 19 from by (first | assumption | omega | (simp only [st_s] <;> omega) | fail)), (show 0 = 0 → (τ_46.1 36) = 0 ∧ 2 ≤ (3) ∧ (3) ≤ 4 from by (first | assumption | omega | (simp only [st_s] <;> omega) | fail))⟩
      ·
        obtain ⟨τ_46, e_τ_46⟩ : ∃ z : S0, z = s_v σ 36 0 := ⟨_, rfl⟩
        rw [← e_τ_46]
        replace hT : c_T τ_46 := by rw [e_τ_46]; exact hT
        have w11_τ_46 : τ_46.1 11 = σ.1 11 := by rw [e_τ_46]; rfl
        have w35_τ_46 : τ_46.1 35 = σ.1 35 := by rw [e_τ_46]; rfl
        have w36_τ_46 : τ_46.1 36 = 0 := by rw [e_τ_46]; rfl
        have W11 : τ_46.1 11 = σ.1 11 := by first | exact w11_τ_46.trans W11 | omega
        have v11 : 0 ≤ τ_46.1 11 ∧ τ_46.1 11 ≤ 50 := hT.1 11
        have v35 : 0 ≤ τ_46.1 35 ∧ τ_46.1 35 ≤ 7 := hT.1 35
        have v36 : 0 ≤ τ_46.1 36 ∧ τ_46.1 36 ≤ 1001 := hT.1 36
        refine h46 _ _ ?_
        replace hT := cT_v (i := 35) hT (show (0 : Int) ≤ 2 ∧ 2 ≤ 7 from by (first | assumption | omega | (simp only [st_s] <;> omega) | fail))
        exact ⟨hT, (show 0 ≤ 0 ∧ 0 ≤ 19 from by (first | assumption | omega | (simp only [st_s] <;> omega) | fail)), (show 0 = 0 → (τ_46.1 36) = 0 ∧ 2 ≤ (2) ∧ (2) ≤ 4 from by (first | assumption | omega | (simp only [st_s] <;> omega) | fail))⟩
    ·
      exact ⟨hT, (show 0 ≤ 8 ∧ 8 ≤ 19 from by (first | assumption | omega | (simp only [st_s] <;> omega) | fail)), (show 8 = 0 → (σ.1 36) = 0 ∧ 2 ≤ (σ.1 35) ∧ (σ.1 35) ≤ 4 from by (first | assumption | omega | (simp only [st_s] <;> omega) | fail))⟩
set_option maxHeartbeats 1000000 in
theorem K2_X7_endDeclaration {n1 : Int} {σ : S0} (hT : c_T σ) (p1 : 0 ≤ n1) (p2 : n1 ≤ 2) : W_X7_endDeclaration n1 σ (fun (x : Int) (τ : S0) => (c_T τ) ∧ (0 ≤ x ∧ x ≤ 19) ∧ ((τ.1 35) = 0)) := by
  have v35 : 0 ≤ σ.1 35 ∧ σ.1 35 ≤ 7 := hT.1 35
  have v36 : 0 ≤ σ.1 36 ∧ σ.1 36 ≤ 1001 := hT.1 36
  have W36 : σ.1 36 = σ.1 36 := rfl
  unfold W_X7_endDeclaration
  replace hT := cT_v (i := 35) hT (show (0 : Int) ≤ 0 ∧ 0 ≤ 7 from by (first | assumption | omega | (simp only [st_s] <;> omega) | fail))
  refine ⟨fun c1 => ?_, fun c1 => ?_⟩
  ·
    exact ⟨hT, (show 0 ≤ 0 ∧ 0 ≤ 19 from by (first | assumption | omega | (simp only [st_s] <;> omega) | fail)), (show ((0 : Int)) = 0 from by (first | assumption | omega | (simp only [st_s] <;> omega) | fail))⟩
  ·
    exact ⟨hT, (show 0 ≤ 4 ∧ 4 ≤ 19 from by (first | assumption | omega | (simp only [st_s] <;> omega) | fail)), (show ((0 : Int)) = 0 from by (first | assumption | omega | (simp only [st_s] <;> omega) | fail))⟩
