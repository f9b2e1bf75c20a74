-- pure: a rule's way through the row
theorem g_way {k : Int} {σ : S0} {par nof : Int → Int} {In : Int → Prop} (h : c_Ug k σ par nof In) {M len sp e : Int} {row : Int → Int} {Hs : Int → Int → Int → Prop} (hM : In M) (rc : g_rc len row (σ.2.1 69) par Hs 0 sp (nof M) e) : ∃ d : Int → Int, d 0 = sp ∧ d (σ.2.1 14 (M + 1) - σ.2.1 14 M - 1) = e ∧ ∀ j : Int, 0 ≤ j → j < σ.2.1 14 (M + 1) - σ.2.1 14 M - 1 → g_mk len row Hs (j_sk (σ.2.1 14) (σ.2.1 15) (σ.2.1 16) (σ.2.1 10) M j) (d j) (d (j + 1)) := by
  obtain ⟨_, ru, _⟩ := h
  obtain ⟨_, rf, _, ⟨π, p0, p1, p2⟩, _⟩ := ru.2.1 M hM
  obtain ⟨m, ρ, d, w0, w1, w2, w3, w4, w5⟩ := rc
  have l := rf.2.1
  have cu := g_chu (par := par) (σ.2.1 14 (M + 1) - σ.2.1 14 M - 1).toNat (σ.2.1 14 (M + 1) - σ.2.1 14 M - 1) m π ρ (by omega) w0 p0 w1 (by rw [p1, w2]) (fun j a b => ⟨(p2 j a b).1, (p2 j a b).2.2.1⟩) (fun j a b => ⟨(w5 j a b).1, (w5 j a b).2.1⟩)
  refine ⟨d, w3, by rw [cu.1]; exact w4, fun j a b => ?_⟩
  have x := (w5 j a (by omega)).2.2
  rw [← cu.2 (j + 1) (by omega) (by omega), (p2 j a b).2.2.2.1] at x
  exact x
/-- a rule's parts have been taken -/
def g_pt (len L sp e fi : Int) (row K tx fl sf sto : Int → Int) (Hs : Int → Int → Int → Prop) : Prop := ∃ D : Int → Int, D 0 = sp ∧ D L = e ∧ (∀ j : Int, 0 ≤ j → j < L → g_mk len row Hs (K j) (D j) (D (j + 1))) ∧ ∀ j : Int, 0 ≤ j → j < L → ¬ fl (fi + j) = -1 → ∃ o : Int, 0 ≤ o ∧ o < L ∧ ¬ fl (fi + o) = -1 ∧ tx (fi + o) = tx (fi + j) ∧ sf (tx (fi + j)) = D o ∧ sto (tx (fi + j)) = D (o + 1)
theorem g_pt_e {len L sp e at_ fi : Int} {row K tx fl sf sto : Int → Int} {Hs : Int → Int → Int → Prop} {F : Int → Int64} (h : g_ps len L sp e L at_ fi row K tx fl sf sto Hs F) (f : g_fi len L sp e 0 row K Hs F) (L1 : 1 ≤ L) (a0 : 0 ≤ at_ ∧ at_ < 64) : g_pt len L sp e fi row K tx fl sf sto Hs := by
  obtain ⟨D, d0, d1, d2, d3, d4⟩ := h
  have w := (f.1 at_ a0.1 a0.2).mp (d3 (by omega))
  exact ⟨D, d0, d1.trans w, d2, d4⟩
theorem g_d_e {len L e : Int} {row K d : Int → Int} {Hs : Int → Int → Int → Prop} (mk : ∀ j : Int, 0 ≤ j → j < L → g_mk len row Hs (K j) (d j) (d (j + 1))) (dl : d L = e) : ∀ (n : Nat) (k : Int), L - k = (n : Int) → 0 ≤ k → d k ≤ e
  | 0, k, hk, k0 => by rw [show k = L from by omega, dl]; exact Int.le_refl _
  | n + 1, k, hk, k0 => by
    have b := (g_mk_b (mk k k0 (by omega))).1
    have c := g_d_e mk dl n (k + 1) (by omega) (by omega)
    omega
theorem g_d_s {len L sp : Int} {row K d : Int → Int} {Hs : Int → Int → Int → Prop} (mk : ∀ j : Int, 0 ≤ j → j < L → g_mk len row Hs (K j) (d j) (d (j + 1))) (d0 : d 0 = sp) : ∀ n : Nat, (n : Int) ≤ L → sp ≤ d (n : Int)
  | 0, _ => by
    have : d ((0 : Nat) : Int) = sp := d0
    omega
  | n + 1, h => by
    have a := g_d_s mk d0 n (by omega)
    have b := (g_mk_b (mk (n : Int) (by omega) (by omega))).1
    rw [show ((n + 1 : Nat) : Int) = (n : Int) + 1 from by omega]
    omega
theorem g_d_u {len L sp e : Int} {row K d : Int → Int} {Hs : Int → Int → Int → Prop} (mk : ∀ j : Int, 0 ≤ j → j < L → g_mk len row Hs (K j) (d j) (d (j + 1))) (d0 : d 0 = sp) (dl : d L = e) : ∀ k : Int, 0 ≤ k → k ≤ L → sp ≤ d k ∧ d k ≤ e := fun k a b => by
  have x := g_d_s mk d0 k.toNat (by omega)
  rw [show (k.toNat : Int) = k from by omega] at x
  exact ⟨x, g_d_e mk dl (L - k).toNat k (by omega) a⟩
theorem g_flv {n us hu pr ru sy rn M : Int} {kd a tx fl rk fa fs hy pa ps pq ra rc rs ca ch rkd : Int → Int} (h : J_all n us hu pr ru kd a tx fl rk fa fs hy pa ps pq ra rc rs ca ch) (hr : J_rks sy rn rk rkd) (tv : J_vs us sy tx) (M0 : 0 ≤ M) (M1 : M < n) (ub : us ≤ 30000) (t0 : ∀ p, 0 ≤ tx p) (a0 : ∀ p, 0 ≤ a p) : ∀ k : Int, 0 ≤ k → k < a (M + 1) - a M - 1 → ¬ fl (a M + 1 + k) = -1 → (0 ≤ fl (a M + 1 + k) ∧ a (fl (a M + 1 + k)) < 30000) ∧ 0 ≤ rk (tx (a (fl (a M + 1 + k)))) ∧ rk (tx (a (fl (a M + 1 + k)))) < rn := fun k k0 k1 z => by
  have jt := (h.1 M M0 M1).1
  have ju := jt.2.2 (a M + 1 + k) (by omega) (by omega)
  have f0 : 0 ≤ fl (a M + 1 + k) ∧ fl (a M + 1 + k) ≤ M := by
    rcases ju with q | ⟨q1, q2, _⟩
    · exact absurd q z
    · exact ⟨q1, q2⟩
  have jf := (h.1 (fl (a M + 1 + k)) f0.1 (by omega)).1
  have j1 := jf.1
  exact ⟨⟨f0.1, by omega⟩, jf.2.1, (hr.2 _ (t0 _) (tv (a (fl (a M + 1 + k))) (a0 _) (by omega))).1⟩
set_option maxHeartbeats 4000000 in
theorem K_X11_part {n1 : Int} {n2 : Int} {n3 : Int} {par nof : Int → Int} {In : Int → Prop} {σ : S0} (hT : c_T σ) (p1 : J_all (σ.1 7) (σ.1 6) (σ.1 13) (σ.1 14) (σ.1 15) (σ.2.1 13) (σ.2.1 14) (σ.2.1 15) (σ.2.1 16) (σ.2.1 10) (σ.2.1 27) (σ.2.1 28) (σ.2.1 29) (σ.2.1 30) (σ.2.1 31) (σ.2.1 32) (σ.2.1 33) (σ.2.1 34) (σ.2.1 35) (σ.2.1 36) (σ.2.1 37)) (p2 : c_Rs σ par nof In) (p3 : In n1) (p4 : 0 ≤ n2) (p5 : n2 < n3) (p6 : n3 ≤ (σ.1 50)) (p7 : g_wu (σ.1 50) (σ.2.1 77) (σ.2.2 3)) (p8 : ∀ s q e : Int, 0 ≤ s → s < (σ.1 4) → 0 ≤ q → q < (σ.1 50) → 0 ≤ e → e < 64 → g_H (σ.2.2 4) s q e → q < e ∧ e ≤ (σ.1 50)) (p9 : g_rc (σ.1 50) (σ.2.1 77) (σ.2.1 69) par (g_H (σ.2.2 4)) 0 n2 (nof n1) n3) (p10 : J_rks (σ.1 5) (σ.1 4) (σ.2.1 10) (σ.2.1 11)) (p11 : J_vs (σ.1 6) (σ.1 5) (σ.2.1 15)) : W_X11_part n1 n2 n3 σ (fun (τ : S0) => (c_T τ) ∧ (g_pt (σ.1 50) (σ.2.1 14 (n1 + 1) - σ.2.1 14 n1 - 1) n2 n3 (σ.2.1 14 n1 + 1) (σ.2.1 77) (j_sk (σ.2.1 14) (σ.2.1 15) (σ.2.1 16) (σ.2.1 10) n1) (σ.2.1 15) (σ.2.1 16) (τ.2.1 89) (τ.2.1 90) (g_H (σ.2.2 4)))) := by
  have A10 : ∀ j, (-1) ≤ σ.2.1 10 j ∧ σ.2.1 10 j ≤ 99 := fun j => hT.2 10 j
  have A11 : ∀ j, 0 ≤ σ.2.1 11 j ∧ σ.2.1 11 j ≤ 999 := fun j => hT.2 11 j
  have A13 : ∀ j, 0 ≤ σ.2.1 13 j ∧ σ.2.1 13 j ≤ 4 := fun j => hT.2 13 j
  have A14 : ∀ j, 0 ≤ σ.2.1 14 j ∧ σ.2.1 14 j ≤ 30000 := fun j => hT.2 14 j
  have A15 : ∀ j, 0 ≤ σ.2.1 15 j ∧ σ.2.1 15 j ≤ 999 := fun j => hT.2 15 j
  have A16 : ∀ j, (-1) ≤ σ.2.1 16 j ∧ σ.2.1 16 j ≤ 1499 := fun j => hT.2 16 j
  have A27 : ∀ j, 0 ≤ σ.2.1 27 j ∧ σ.2.1 27 j ≤ 90000 := fun j => hT.2 27 j
  have A28 : ∀ j, 0 ≤ σ.2.1 28 j ∧ σ.2.1 28 j ≤ 60 := fun j => hT.2 28 j
  have A29 : ∀ j, 0 ≤ σ.2.1 29 j ∧ σ.2.1 29 j ≤ 1499 := fun j => hT.2 29 j
  have A30 : ∀ j, 0 ≤ σ.2.1 30 j ∧ σ.2.1 30 j ≤ 20000 := fun j => hT.2 30 j
  have A31 : ∀ j, 0 ≤ σ.2.1 31 j ∧ σ.2.1 31 j ≤ 20000 := fun j => hT.2 31 j
  have A32 : ∀ j, 0 ≤ σ.2.1 32 j ∧ σ.2.1 32 j ≤ 999999 := fun j => hT.2 32 j
  have A33 : ∀ j, 0 ≤ σ.2.1 33 j ∧ σ.2.1 33 j ≤ 20000 := fun j => hT.2 33 j
  have A34 : ∀ j, 0 ≤ σ.2.1 34 j ∧ σ.2.1 34 j ≤ 20000 := fun j => hT.2 34 j
  have A35 : ∀ j, 0 ≤ σ.2.1 35 j ∧ σ.2.1 35 j ≤ 1499 := fun j => hT.2 35 j
  have A36 : ∀ j, 0 ≤ σ.2.1 36 j ∧ σ.2.1 36 j ≤ 20000 := fun j => hT.2 36 j
  have A37 : ∀ j, 0 ≤ σ.2.1 37 j ∧ σ.2.1 37 j ≤ 19999 := fun j => hT.2 37 j
  have A77 : ∀ j, 0 ≤ σ.2.1 77 j ∧ σ.2.1 77 j ≤ 999 := fun j => hT.2 77 j
  have A89 : ∀ j, 0 ≤ σ.2.1 89 j ∧ σ.2.1 89 j ≤ 59 := fun j => hT.2 89 j
  have A90 : ∀ j, 0 ≤ σ.2.1 90 j ∧ σ.2.1 90 j ≤ 59 := fun j => hT.2 90 j
  have v4 : 0 ≤ σ.1 4 ∧ σ.1 4 ≤ 100 := hT.1 4
  have v5 : 0 ≤ σ.1 5 ∧ σ.1 5 ≤ 1000 := hT.1 5
  have v6 : 0 ≤ σ.1 6 ∧ σ.1 6 ≤ 30000 := hT.1 6
  have v7 : 0 ≤ σ.1 7 ∧ σ.1 7 ≤ 1500 := hT.1 7
  have v13 : 0 ≤ σ.1 13 ∧ σ.1 13 ≤ 90000 := hT.1 13
  have v14 : 0 ≤ σ.1 14 ∧ σ.1 14 ≤ 20000 := hT.1 14
  have v15 : 0 ≤ σ.1 15 ∧ σ.1 15 ≤ 20000 := hT.1 15
  have v50 : 0 ≤ σ.1 50 ∧ σ.1 50 ≤ 59 := hT.1 50
  have W4 : σ.1 4 = σ.1 4 := rfl
  have W5 : σ.1 5 = σ.1 5 := rfl
  have W6 : σ.1 6 = σ.1 6 := rfl
  have W7 : σ.1 7 = σ.1 7 := rfl
  have W13 : σ.1 13 = σ.1 13 := rfl
  have W14 : σ.1 14 = σ.1 14 := rfl
  have W15 : σ.1 15 = σ.1 15 := rfl
  have W50 : σ.1 50 = σ.1 50 := rfl
  have G10 : σ.2.1 10 = σ.2.1 10 := rfl
  have G11 : σ.2.1 11 = σ.2.1 11 := rfl
  have G13 : σ.2.1 13 = σ.2.1 13 := rfl
  have G14 : σ.2.1 14 = σ.2.1 14 := rfl
  have G15 : σ.2.1 15 = σ.2.1 15 := rfl
  have G16 : σ.2.1 16 = σ.2.1 16 := rfl
  have G27 : σ.2.1 27 = σ.2.1 27 := rfl
  have G28 : σ.2.1 28 = σ.2.1 28 := rfl
  have G29 : σ.2.1 29 = σ.2.1 29 := rfl
  have G30 : σ.2.1 30 = σ.2.1 30 := rfl
  have G31 : σ.2.1 31 = σ.2.1 31 := rfl
  have G32 : σ.2.1 32 = σ.2.1 32 := rfl
  have G33 : σ.2.1 33 = σ.2.1 33 := rfl
  have G34 : σ.2.1 34 = σ.2.1 34 := rfl
  have G35 : σ.2.1 35 = σ.2.1 35 := rfl
  have G36 : σ.2.1 36 = σ.2.1 36 := rfl
  have G37 : σ.2.1 37 = σ.2.1 37 := rfl
  have G77 : σ.2.1 77 = σ.2.1 77 := rfl
  intro P41 P85 P194 h41 h85 h194
  have ug := p2.1
  have ru := ug.2.1.2.1 n1 p3
  have rf := ru.2.1
  have l47 := p2.2.2
  have rl1 := rf.2.1
  have rl2 := rf.2.2.1
  have r01 := ru.1
  have s14 := A14
  have s15 := A15
  have t14 := A14 (n1 + 1)
  have a14 := A14 n1
  have w50 : σ.1 50 ≤ 59 := by omega
  have flv := g_flv p1 p10 p11 (M := n1) (by omega) (by omega) (by omega) (fun p => (s15 p).1) (fun p => (s14 p).1)
  have jt := (p1.1 n1 (by omega) (by omega)).1.1
  obtain ⟨d, d0, dL, dm⟩ := g_way ug p3 p9
  have dup := g_d_u dm d0 dL
  have TX : J_vs (σ.1 6) (σ.1 5) (σ.2.1 15) := p11
  have RKS : J_rks (σ.1 5) (σ.1 4) (σ.2.1 10) (σ.2.1 11) := p10
  have CJ : J_all (σ.1 7) (σ.1 6) (σ.1 13) (σ.1 14) (σ.1 15) (σ.2.1 13) (σ.2.1 14) (σ.2.1 15) (σ.2.1 16) (σ.2.1 10) (σ.2.1 27) (σ.2.1 28) (σ.2.1 29) (σ.2.1 30) (σ.2.1 31) (σ.2.1 32) (σ.2.1 33) (σ.2.1 34) (σ.2.1 35) (σ.2.1 36) (σ.2.1 37) := p1
  have CJ_0 := CJ
  have RKS_0 := RKS
  have TX_0 := TX
  have l_85 : ∀ (m_85 : Nat) (u4_85 : Int) (u5_85 : Int) (u6_85 : Int) (u7_85 : Int) (τ_85 : S0), 61 - u7_85 < (m_85 : Int) → (c_T τ_85) → (τ_85.1 4 = σ.1 4) → (τ_85.1 5 = σ.1 5) → (τ_85.1 6 = σ.1 6) → (τ_85.1 7 = σ.1 7) → (τ_85.1 13 = σ.1 13) → (τ_85.1 14 = σ.1 14) → (τ_85.1 15 = σ.1 15) → (τ_85.1 50 = σ.1 50) → (τ_85.2.1 10 = σ.2.1 10) → (τ_85.2.1 11 = σ.2.1 11) → (τ_85.2.1 13 = σ.2.1 13) → (τ_85.2.1 14 = σ.2.1 14) → (τ_85.2.1 15 = σ.2.1 15) → (τ_85.2.1 16 = σ.2.1 16) → (τ_85.2.1 27 = σ.2.1 27) → (τ_85.2.1 28 = σ.2.1 28) → (τ_85.2.1 29 = σ.2.1 29) → (τ_85.2.1 30 = σ.2.1 30) → (τ_85.2.1 31 = σ.2.1 31) → (τ_85.2.1 32 = σ.2.1 32) → (τ_85.2.1 33 = σ.2.1 33) → (τ_85.2.1 34 = σ.2.1 34) → (τ_85.2.1 35 = σ.2.1 35) → (τ_85.2.1 36 = σ.2.1 36) → (τ_85.2.1 37 = σ.2.1 37) → (τ_85.2.1 77 = σ.2.1 77) → (u4_85 = σ.2.1 14 n1 + 1) → (u5_85 = (σ.2.1 14 (n1 + 1) - σ.2.1 14 n1 - 1)) → (0 ≤ u7_85 ∧ u7_85 ≤ u5_85) → (n2 ≤ u6_85 ∧ u6_85 ≤ n3) → (g_fi (σ.1 50) (σ.2.1 14 (n1 + 1) - σ.2.1 14 n1 - 1) n2 n3 0 (σ.2.1 77) (j_sk (σ.2.1 14) (σ.2.1 15) (σ.2.1 16) (σ.2.1 10) n1) (g_H (σ.2.2 4)) (τ_85.2.2 8)) → (g_ps (σ.1 50) (σ.2.1 14 (n1 + 1) - σ.2.1 14 n1 - 1) n2 n3 u7_85 u6_85 (σ.2.1 14 n1 + 1) (σ.2.1 77) (j_sk (σ.2.1 14) (σ.2.1 15) (σ.2.1 16) (σ.2.1 10) n1) (σ.2.1 15) (σ.2.1 16) (τ_85.2.1 89) (τ_85.2.1 90) (g_H (σ.2.2 4)) (τ_85.2.2 8)) → (τ_85.2.2 4 = σ.2.2 4) → (τ_85.2.2 3 = σ.2.2 3) → P85 n3 u4_85 u5_85 u6_85 u7_85 τ_85 := by
    intro m_85
    induction m_85 with
    | zero =>
      intro u4_85 u5_85 u6_85 u7_85 τ_85 hm hT W4 W5 W6 W7 W13 W14 W15 W50 G10 G11 G13 G14 G15 G16 G27 G28 G29 G30 G31 G32 G33 G34 G35 G36 G37 G77 i85_1 i85_2 i85_3 i85_4 i85_5 i85_6 i85_7 i85_8
      have A10 : ∀ j, (-1) ≤ τ_85.2.1 10 j ∧ τ_85.2.1 10 j ≤ 99 := fun j => hT.2 10 j
      have A11 : ∀ j, 0 ≤ τ_85.2.1 11 j ∧ τ_85.2.1 11 j ≤ 999 := fun j => hT.2 11 j
      have A13 : ∀ j, 0 ≤ τ_85.2.1 13 j ∧ τ_85.2.1 13 j ≤ 4 := fun j => hT.2 13 j
      have A14 : ∀ j, 0 ≤ τ_85.2.1 14 j ∧ τ_85.2.1 14 j ≤ 30000 := fun j => hT.2 14 j
      have A15 : ∀ j, 0 ≤ τ_85.2.1 15 j ∧ τ_85.2.1 15 j ≤ 999 := fun j => hT.2 15 j
      have A16 : ∀ j, (-1) ≤ τ_85.2.1 16 j ∧ τ_85.2.1 16 j ≤ 1499 := fun j => hT.2 16 j
      have A27 : ∀ j, 0 ≤ τ_85.2.1 27 j ∧ τ_85.2.1 27 j ≤ 90000 := fun j => hT.2 27 j
      have A28 : ∀ j, 0 ≤ τ_85.2.1 28 j ∧ τ_85.2.1 28 j ≤ 60 := fun j => hT.2 28 j
      have A29 : ∀ j, 0 ≤ τ_85.2.1 29 j ∧ τ_85.2.1 29 j ≤ 1499 := fun j => hT.2 29 j
      have A30 : ∀ j, 0 ≤ τ_85.2.1 30 j ∧ τ_85.2.1 30 j ≤ 20000 := fun j => hT.2 30 j
      have A31 : ∀ j, 0 ≤ τ_85.2.1 31 j ∧ τ_85.2.1 31 j ≤ 20000 := fun j => hT.2 31 j
      have A32 : ∀ j, 0 ≤ τ_85.2.1 32 j ∧ τ_85.2.1 32 j ≤ 999999 := fun j => hT.2 32 j
      have A33 : ∀ j, 0 ≤ τ_85.2.1 33 j ∧ τ_85.2.1 33 j ≤ 20000 := fun j => hT.2 33 j
      have A34 : ∀ j, 0 ≤ τ_85.2.1 34 j ∧ τ_85.2.1 34 j ≤ 20000 := fun j => hT.2 34 j
      have A35 : ∀ j, 0 ≤ τ_85.2.1 35 j ∧ τ_85.2.1 35 j ≤ 1499 := fun j => hT.2 35 j
      have A36 : ∀ j, 0 ≤ τ_85.2.1 36 j ∧ τ_85.2.1 36 j ≤ 20000 := fun j => hT.2 36 j
      have A37 : ∀ j, 0 ≤ τ_85.2.1 37 j ∧ τ_85.2.1 37 j ≤ 19999 := fun j => hT.2 37 j
      have A77 : ∀ j, 0 ≤ τ_85.2.1 77 j ∧ τ_85.2.1 77 j ≤ 999 := fun j => hT.2 77 j
      have A89 : ∀ j, 0 ≤ τ_85.2.1 89 j ∧ τ_85.2.1 89 j ≤ 59 := fun j => hT.2 89 j
      have A90 : ∀ j, 0 ≤ τ_85.2.1 90 j ∧ τ_85.2.1 90 j ≤ 59 := fun j => hT.2 90 j
      have v4 : 0 ≤ τ_85.1 4 ∧ τ_85.1 4 ≤ 100 := hT.1 4
      have v5 : 0 ≤ τ_85.1 5 ∧ τ_85.1 5 ≤ 1000 := hT.1 5
      have v6 : 0 ≤ τ_85.1 6 ∧ τ_85.1 6 ≤ 30000 := hT.1 6
      have v7 : 0 ≤ τ_85.1 7 ∧ τ_85.1 7 ≤ 1500 := hT.1 7
      have v13 : 0 ≤ τ_85.1 13 ∧ τ_85.1 13 ≤ 90000 := hT.1 13
      have v14 : 0 ≤ τ_85.1 14 ∧ τ_85.1 14 ≤ 20000 := hT.1 14
      have v15 : 0 ≤ τ_85.1 15 ∧ τ_85.1 15 ≤ 20000 := hT.1 15
      have v50 : 0 ≤ τ_85.1 50 ∧ τ_85.1 50 ≤ 59 := hT.1 50
      exfalso; (first | omega | (simp only [st_s] <;> omega) | assumption | omega | fail)
    | succ m_85 ih_85 =>
      intro u4_85 u5_85 u6_85 u7_85 τ_85 hm_85 hT W4 W5 W6 W7 W13 W14 W15 W50 G10 G11 G13 G14 G15 G16 G27 G28 G29 G30 G31 G32 G33 G34 G35 G36 G37 G77 i85_1 i85_2 i85_3 i85_4 i85_5 i85_6 i85_7 i85_8
      have A10 : ∀ j, (-1) ≤ τ_85.2.1 10 j ∧ τ_85.2.1 10 j ≤ 99 := fun j => hT.2 10 j
      have A11 : ∀ j, 0 ≤ τ_85.2.1 11 j ∧ τ_85.2.1 11 j ≤ 999 := fun j => hT.2 11 j
      have A13 : ∀ j, 0 ≤ τ_85.2.1 13 j ∧ τ_85.2.1 13 j ≤ 4 := fun j => hT.2 13 j
      have A14 : ∀ j, 0 ≤ τ_85.2.1 14 j ∧ τ_85.2.1 14 j ≤ 30000 := fun j => hT.2 14 j
      have A15 : ∀ j, 0 ≤ τ_85.2.1 15 j ∧ τ_85.2.1 15 j ≤ 999 := fun j => hT.2 15 j
      have A16 : ∀ j, (-1) ≤ τ_85.2.1 16 j ∧ τ_85.2.1 16 j ≤ 1499 := fun j => hT.2 16 j
      have A27 : ∀ j, 0 ≤ τ_85.2.1 27 j ∧ τ_85.2.1 27 j ≤ 90000 := fun j => hT.2 27 j
      have A28 : ∀ j, 0 ≤ τ_85.2.1 28 j ∧ τ_85.2.1 28 j ≤ 60 := fun j => hT.2 28 j
      have A29 : ∀ j, 0 ≤ τ_85.2.1 29 j ∧ τ_85.2.1 29 j ≤ 1499 := fun j => hT.2 29 j
      have A30 : ∀ j, 0 ≤ τ_85.2.1 30 j ∧ τ_85.2.1 30 j ≤ 20000 := fun j => hT.2 30 j
      have A31 : ∀ j, 0 ≤ τ_85.2.1 31 j ∧ τ_85.2.1 31 j ≤ 20000 := fun j => hT.2 31 j
      have A32 : ∀ j, 0 ≤ τ_85.2.1 32 j ∧ τ_85.2.1 32 j ≤ 999999 := fun j => hT.2 32 j
      have A33 : ∀ j, 0 ≤ τ_85.2.1 33 j ∧ τ_85.2.1 33 j ≤ 20000 := fun j => hT.2 33 j
      have A34 : ∀ j, 0 ≤ τ_85.2.1 34 j ∧ τ_85.2.1 34 j ≤ 20000 := fun j => hT.2 34 j
      have A35 : ∀ j, 0 ≤ τ_85.2.1 35 j ∧ τ_85.2.1 35 j ≤ 1499 := fun j => hT.2 35 j
      have A36 : ∀ j, 0 ≤ τ_85.2.1 36 j ∧ τ_85.2.1 36 j ≤ 20000 := fun j => hT.2 36 j
      have A37 : ∀ j, 0 ≤ τ_85.2.1 37 j ∧ τ_85.2.1 37 j ≤ 19999 := fun j => hT.2 37 j
      have A77 : ∀ j, 0 ≤ τ_85.2.1 77 j ∧ τ_85.2.1 77 j ≤ 999 := fun j => hT.2 77 j
      have A89 : ∀ j, 0 ≤ τ_85.2.1 89 j ∧ τ_85.2.1 89 j ≤ 59 := fun j => hT.2 89 j
      have A90 : ∀ j, 0 ≤ τ_85.2.1 90 j ∧ τ_85.2.1 90 j ≤ 59 := fun j => hT.2 90 j
      have v4 : 0 ≤ τ_85.1 4 ∧ τ_85.1 4 ≤ 100 := hT.1 4
      have v5 : 0 ≤ τ_85.1 5 ∧ τ_85.1 5 ≤ 1000 := hT.1 5
      have v6 : 0 ≤ τ_85.1 6 ∧ τ_85.1 6 ≤ 30000 := hT.1 6
      have v7 : 0 ≤ τ_85.1 7 ∧ τ_85.1 7 ≤ 1500 := hT.1 7
      have v13 : 0 ≤ τ_85.1 13 ∧ τ_85.1 13 ≤ 90000 := hT.1 13
      have v14 : 0 ≤ τ_85.1 14 ∧ τ_85.1 14 ≤ 20000 := hT.1 14
      have v15 : 0 ≤ τ_85.1 15 ∧ τ_85.1 15 ≤ 20000 := hT.1 15
      have v50 : 0 ≤ τ_85.1 50 ∧ τ_85.1 50 ≤ 59 := hT.1 50
      have TX : J_vs (τ_85.1 6) (τ_85.1 5) (τ_85.2.1 15) := by rw [show (J_vs (τ_85.1 6) (τ_85.1 5) (τ_85.2.1 15)) = (J_vs (σ.1 6) (σ.1 5) (σ.2.1 15)) from by rw [W5, W6, G15]]; exact TX_0
      have RKS : J_rks (τ_85.1 5) (τ_85.1 4) (τ_85.2.1 10) (τ_85.2.1 11) := by rw [show (J_rks (τ_85.1 5) (τ_85.1 4) (τ_85.2.1 10) (τ_85.2.1 11)) = (J_rks (σ.1 5) (σ.1 4) (σ.2.1 10) (σ.2.1 11)) from by rw [W4, W5, G10, G11]]; exact RKS_0
      have CJ : J_all (τ_85.1 7) (τ_85.1 6) (τ_85.1 13) (τ_85.1 14) (τ_85.1 15) (τ_85.2.1 13) (τ_85.2.1 14) (τ_85.2.1 15) (τ_85.2.1 16) (τ_85.2.1 10) (τ_85.2.1 27) (τ_85.2.1 28) (τ_85.2.1 29) (τ_85.2.1 30) (τ_85.2.1 31) (τ_85.2.1 32) (τ_85.2.1 33) (τ_85.2.1 34) (τ_85.2.1 35) (τ_85.2.1 36) (τ_85.2.1 37) := by rw [show (J_all (τ_85.1 7) (τ_85.1 6) (τ_85.1 13) (τ_85.1 14) (τ_85.1 15) (τ_85.2.1 13) (τ_85.2.1 14) (τ_85.2.1 15) (τ_85.2.1 16) (τ_85.2.1 10) (τ_85.2.1 27) (τ_85.2.1 28) (τ_85.2.1 29) (τ_85.2.1 30) (τ_85.2.1 31) (τ_85.2.1 32) (τ_85.2.1 33) (τ_85.2.1 34) (τ_85.2.1 35) (τ_85.2.1 36) (τ_85.2.1 37)) = (J_all (σ.1 7) (σ.1 6) (σ.1 13) (σ.1 14) (σ.1 15) (σ.2.1 13) (σ.2.1 14) (σ.2.1 15) (σ.2.1 16) (σ.2.1 10) (σ.2.1 27) (σ.2.1 28) (σ.2.1 29) (σ.2.1 30) (σ.2.1 31) (σ.2.1 32) (σ.2.1 33) (σ.2.1 34) (σ.2.1 35) (σ.2.1 36) (σ.2.1 37)) from by rw [W6, W7, W13, W14, W15, G10, G13, G14, G15, G16, G27, G28, G29, G30, G31, G32, G33, G34, G35, G36, G37]]; exact CJ_0
      have fb := fun k (kl : k ≤ (σ.2.1 14 (n1 + 1) - σ.2.1 14 n1 - 1)) a q b c e => g_fi_b i85_5 ((σ.2.1 14 (n1 + 1) - σ.2.1 14 n1 - 1) - k).toNat k (by omega) a q b c e
      have fd1 := g_fi_d i85_5 (by omega) (by omega) dL dup p4 dm ((σ.2.1 14 (n1 + 1) - σ.2.1 14 n1 - 1) - 1).toNat 1 (by omega) (by omega)
      have dmz := dm 0 (by omega) (by omega)
      refine h85 n3 u4_85 u5_85 u6_85 u7_85 τ_85 ?_
      refine ⟨fun c18 => ?_, fun c18 => ?_⟩
      ·
        exact ⟨hT, (show g_pt (σ.1 50) (σ.2.1 14 (n1 + 1) - σ.2.1 14 n1 - 1) n2 n3 (σ.2.1 14 n1 + 1) (σ.2.1 77) (j_sk (σ.2.1 14) (σ.2.1 15) (σ.2.1 16) (σ.2.1 10) n1) (σ.2.1 15) (σ.2.1 16) (τ_85.2.1 89) (τ_85.2.1 90) (g_H (σ.2.2 4)) from by (rw [show u7_85 = (σ.2.1 14 (n1 + 1) - σ.2.1 14 n1 - 1) from by omega] at i85_6; exact g_pt_e i85_6 i85_5 (by omega) (by omega)))⟩
      ·
        have nx := g_ps_n i85_6 i85_5 (by omega) (by omega) p4 (by omega) d0 (by rw [d0] at dmz; exact dmz) fd1 (by omega) (dup 1 (by omega) (by omega)).2
        refine ⟨(show 0 ≤ (u4_85 + u7_85) ∧ (u4_85 + u7_85) < 30000 from by (first | omega | (simp only [st_s] <;> omega) | assumption | omega | fail)), ?_⟩
        intro x20 r_x20 e_x20
        have b_x20 : 0 ≤ x20 ∧ x20 ≤ 999 := by rw [e_x20]; exact hT.2 15 _
        have e20 : x20 = σ.2.1 15 (σ.2.1 14 n1 + 1 + u7_85) := by rw [e_x20, G15, i85_1]
        intro x21 r_x21 e_x21
        have b_x21 : (-1) ≤ x21 ∧ x21 ≤ 1499 := by rw [e_x21]; exact hT.2 16 _
        refine ⟨fun c22 => ?_, fun c22 => ?_⟩
        ·
          have fz : σ.2.1 16 (σ.2.1 14 n1 + 1 + u7_85) = -1 := by rw [← i85_1, ← G16, ← e_x21]; assumption
          have cst : g_mk (σ.1 50) (σ.2.1 77) (g_H (σ.2.2 4)) ((j_sk (σ.2.1 14) (σ.2.1 15) (σ.2.1 16) (σ.2.1 10) n1) u7_85) u6_85 (u6_85 + 1) ∧ j_b (τ_85.2.2 8 (u7_85 + 1)) (u6_85 + 1) ∧ u6_85 + 1 ≤ n3 := by (obtain ⟨q2, qa, qm, qf⟩ := nx; have qm2 := qm; obtain ⟨m1, ⟨_, _, m3⟩ | ⟨m2, _⟩⟩ := qm2; (rw [m3] at qm qf; exact ⟨qm, qf, (fb (u7_85 + 1) (by omega) (by omega) (u6_85 + 1) (by omega) (by omega) qf).1⟩); (rw [g_skc fz] at m2; have := (s15 (σ.2.1 14 n1 + 1 + u7_85)).1; omega))
          refine ⟨(⟨by (first | omega | (simp only [st_s] <;> omega) | assumption | omega | fail), by (first | omega | (simp only [st_s] <;> omega) | assumption | omega | fail)⟩ : rg (u6_85 + 1)), ?_⟩
          refine h194 _ _ _ _ _ _ ?_
          intro x36 r_x36 h1_x36 h2_x36 h3_x36
          refine ⟨(⟨by (first | omega | (simp only [st_s] <;> omega) | assumption | omega | fail), by (first | omega | (simp only [st_s] <;> omega) | assumption | omega | fail)⟩ : rg (u7_85 + 1)), ?_⟩
          exact ih_85 _ _ _ _ _ (show (61 - (u7_85 + 1) : Int) < ((m_85 : Nat) : Int) from by ((first | omega | (simp only [st_s] <;> omega) | assumption | omega | fail))) hT (show τ_85.1 4 = σ.1 4 from by first | exact W4 | omega) (show τ_85.1 5 = σ.1 5 from by first | exact W5 | omega) (show τ_85.1 6 = σ.1 6 from by first | exact W6 | omega) (show τ_85.1 7 = σ.1 7 from by first | exact W7 | omega) (show τ_85.1 13 = σ.1 13 from by first | exact W13 | omega) (show τ_85.1 14 = σ.1 14 from by first | exact W14 | omega) (show τ_85.1 15 = σ.1 15 from by first | exact W15 | omega) (show τ_85.1 50 = σ.1 50 from by first | exact W50 | omega) G10 G11 G13 G14 G15 G16 G27 G28 G29 G30 G31 G32 G33 G34 G35 G36 G37 G77 (show u4_85 = σ.2.1 14 n1 + 1 from by (first | omega | (simp only [st_s] <;> omega) | assumption | omega | fail)) (show u5_85 = (σ.2.1 14 (n1 + 1) - σ.2.1 14 n1 - 1) from by (first | omega | (simp only [st_s] <;> omega) | assumption | omega | fail)) (show 0 ≤ (u7_85 + 1) ∧ (u7_85 + 1) ≤ u5_85 from by (first | omega | (simp only [st_s] <;> omega) | assumption | omega | fail)) (show n2 ≤ x36 ∧ x36 ≤ n3 from by (first | omega | (simp only [st_s] <;> omega) | assumption | omega | fail)) (show g_fi (σ.1 50) (σ.2.1 14 (n1 + 1) - σ.2.1 14 n1 - 1) n2 n3 0 (σ.2.1 77) (j_sk (σ.2.1 14) (σ.2.1 15) (σ.2.1 16) (σ.2.1 10) n1) (g_H (σ.2.2 4)) (τ_85.2.2 8) from by (first | exact i85_5 | (rw [show τ_194.2.2 8 = τ_85.2.2 8 from by rw [e_τ_194]; rfl]; exact i85_5) | (rw [show (0 : Int) = u6_41 from by omega]; exact i41_4) | fail)) (show g_ps (σ.1 50) (σ.2.1 14 (n1 + 1) - σ.2.1 14 n1 - 1) n2 n3 (u7_85 + 1) x36 (σ.2.1 14 n1 + 1) (σ.2.1 77) (j_sk (σ.2.1 14) (σ.2.1 15) (σ.2.1 16) (σ.2.1 10) n1) (σ.2.1 15) (σ.2.1 16) (τ_85.2.1 89) (τ_85.2.1 90) (g_H (σ.2.2 4)) (τ_85.2.2 8) from by (first | exact g_ps0 | exact g_ps_a i85_6 (by omega) (by rw [show x36 = u6_85 + 1 from by omega]; exact cst.1) (by rw [show x36 = u6_85 + 1 from by omega]; exact cst.2.1) (Or.inl ⟨fz, rfl, rfl⟩) | (rw [show τ_194.2.2 8 = τ_85.2.2 8 from by rw [e_τ_194]; rfl]; exact g_ps_a i85_6 (by omega) (by rw [show x36 = x32 from by omega]; exact vm) (by rw [show x36 = x32 from by omega]; exact vf) (Or.inr ⟨fz, by rw [g89_τ_194, ← e20], by rw [g90_τ_194, ← e20, show x36 = x34 from by omega]⟩)) | fail)) (show τ_85.2.2 4 = σ.2.2 4 from by (first | exact i41_5 | exact i85_7 | (rw [e_τ_194]; exact i85_7) | fail)) (show τ_85.2.2 3 = σ.2.2 3 from by (first | exact i41_6 | exact i85_8 | (rw [e_τ_194]; exact i85_8) | fail))
        ·
          have fz : ¬ σ.2.1 16 (σ.2.1 14 n1 + 1 + u7_85) = -1 := by rw [← i85_1, ← G16, ← e_x21]; assumption
          have flk := flv u7_85 (by omega) (by omega) fz
          have o14 := G14
          have o15 := G15
          have o16 := G16
          have o10 := G10
          refine ⟨_, K_X11_sortOf hT (show 0 ≤ (u4_85 + u7_85) from by (first | omega | (simp only [st_s] <;> omega) | assumption | omega | fail)) (show (u4_85 + u7_85) < 30000 from by (first | omega | (simp only [st_s] <;> omega) | assumption | omega | fail)) (show 0 ≤ τ_85.2.1 16 (u4_85 + u7_85) from by (rw [o16, i85_1]; exact flk.1.1)) (show τ_85.2.1 14 (τ_85.2.1 16 (u4_85 + u7_85)) < 30000 from by (rw [o14, o16, i85_1]; exact flk.1.2)), ?_⟩
          intro x25 r_x25 hq
          obtain ⟨q24_1, q24_2⟩ := hq
          replace q24_1 : x25 = τ_85.2.1 10 (τ_85.2.1 15 (τ_85.2.1 14 (τ_85.2.1 16 (u4_85 + u7_85)))) := q24_1
          replace q24_2 : -1 ≤ x25 ∧ x25 ≤ 99 := q24_2
          have e25 : x25 = σ.2.1 10 (σ.2.1 15 (σ.2.1 14 (σ.2.1 16 (σ.2.1 14 n1 + 1 + u7_85)))) := by rw [q24_1, o10, o15, o14, o16, i85_1]
          refine ⟨(show 0 ≤ ((x25 * 60) + u6_85) ∧ ((x25 * 60) + u6_85) < 6000 from by (first | omega | (simp only [st_s] <;> omega) | assumption | omega | fail)), ?_⟩
          intro x28 e_x28
          refine ⟨(show 0 ≤ (u7_85 + 1) ∧ (u7_85 + 1) < 61 from by (first | omega | (simp only [st_s] <;> omega) | assumption | omega | fail)), ?_⟩
          intro x30 e_x30
          have e28 : x28 = σ.2.2 4 (x25 * 60 + u6_85) := by rw [e_x28, i85_7]
          have nz0 : ¬ (x28 &&& x30) = 0 := by (intro z; obtain ⟨q2, qa, ⟨m1, ⟨m2, _⟩ | ⟨_, m3, m4, m5⟩⟩, qf⟩ := nx; (rw [g_skv fz] at m2; omega); (rw [g_skv fz, ← e25, show -1 - (-1 - x25) = x25 from by omega] at m5; have v : j_b (x28 &&& x30) q2 := (by rw [j_b_and, e28, e_x30]; exact ⟨m5, qf⟩); rw [z] at v; exact j_b_0 q2 v))
          refine ⟨_, K_J13_numberOfTrailingZeros_95d88 hT, ?_⟩
          intro x32 r_x32 hq
          obtain ⟨q31_1, q31_2⟩ := hq
          replace q31_1 : 0 ≤ x32 ∧ x32 ≤ 64 := q31_1
          replace q31_2 : ¬ (x28 &&& x30) = 0 → x32 < 64 ∧ j_b (x28 &&& x30) x32 := q31_2
          have zb := q31_2 nz0
          have zb2 := zb.2
          rw [j_b_and] at zb2
          have vh : g_H (σ.2.2 4) x25 u6_85 x32 := by (have w := zb2.1; rw [e28] at w; exact w)
          have vf : j_b (τ_85.2.2 8 (u7_85 + 1)) x32 := by (have w := zb2.2; rw [e_x30] at w; exact w)
          have vb := fb (u7_85 + 1) (by omega) (by omega) x32 (by omega) (by omega) vf
          have u6l : u6_85 < σ.1 50 := by (obtain ⟨q2, qa, qm, qf⟩ := nx; exact qm.1)
          have vs := p8 x25 u6_85 x32 (by rw [e25]; exact flk.2.1) (by rw [e25]; exact flk.2.2) (by omega) (by omega) (by omega) (by omega) vh
          have vm : g_mk (σ.1 50) (σ.2.1 77) (g_H (σ.2.2 4)) ((j_sk (σ.2.1 14) (σ.2.1 15) (σ.2.1 16) (σ.2.1 10) n1) u7_85) u6_85 x32 := ⟨by omega, Or.inr ⟨by rw [g_skv fz]; have := flk.2.1; omega, vs.1, vs.2, by rw [g_skv fz, ← e25, show -1 - (-1 - x25) = x25 from by omega]; exact vh⟩⟩
          intro x34 r_x34 h1_x34 h2_x34 h3_x34
          refine ⟨(show 0 ≤ x20 ∧ x20 < 1000 from by (first | omega | (simp only [st_s] <;> omega) | assumption | omega | fail)), ?_⟩
          replace hT := cT_a (k := 89) (j := x20) hT (show (0 : Int) ≤ u6_85 ∧ u6_85 ≤ 59 from by (first | omega | (simp only [st_s] <;> omega) | assumption | omega | fail))
          replace hT := cT_a (k := 90) (j := x20) hT (show (0 : Int) ≤ x34 ∧ x34 ≤ 59 from by (first | omega | (simp only [st_s] <;> omega) | assumption | omega | fail))
          obtain ⟨τ_194, e_τ_194⟩ : ∃ z : S0, z = s_a (s_a τ_85 89 x20 u6_85) 90 x20 x34 := ⟨_, rfl⟩
          rw [← e_τ_194]
          replace hT : c_T τ_194 := by rw [e_τ_194]; exact hT
          have w4_τ_194 : τ_194.1 4 = τ_85.1 4 := by rw [e_τ_194]; rfl
          have w5_τ_194 : τ_194.1 5 = τ_85.1 5 := by rw [e_τ_194]; rfl
          have w6_τ_194 : τ_194.1 6 = τ_85.1 6 := by rw [e_τ_194]; rfl
          have w7_τ_194 : τ_194.1 7 = τ_85.1 7 := by rw [e_τ_194]; rfl
          have w13_τ_194 : τ_194.1 13 = τ_85.1 13 := by rw [e_τ_194]; rfl
          have w14_τ_194 : τ_194.1 14 = τ_85.1 14 := by rw [e_τ_194]; rfl
          have w15_τ_194 : τ_194.1 15 = τ_85.1 15 := by rw [e_τ_194]; rfl
          have w50_τ_194 : τ_194.1 50 = τ_85.1 50 := by rw [e_τ_194]; rfl
          have g10_τ_194 : τ_194.2.1 10 = τ_85.2.1 10 := by rw [e_τ_194]; rfl
          have g11_τ_194 : τ_194.2.1 11 = τ_85.2.1 11 := by rw [e_τ_194]; rfl
          have g13_τ_194 : τ_194.2.1 13 = τ_85.2.1 13 := by rw [e_τ_194]; rfl
          have g14_τ_194 : τ_194.2.1 14 = τ_85.2.1 14 := by rw [e_τ_194]; rfl
          have g15_τ_194 : τ_194.2.1 15 = τ_85.2.1 15 := by rw [e_τ_194]; rfl
          have g16_τ_194 : τ_194.2.1 16 = τ_85.2.1 16 := by rw [e_τ_194]; rfl
          have g27_τ_194 : τ_194.2.1 27 = τ_85.2.1 27 := by rw [e_τ_194]; rfl
          have g28_τ_194 : τ_194.2.1 28 = τ_85.2.1 28 := by rw [e_τ_194]; rfl
          have g29_τ_194 : τ_194.2.1 29 = τ_85.2.1 29 := by rw [e_τ_194]; rfl
          have g30_τ_194 : τ_194.2.1 30 = τ_85.2.1 30 := by rw [e_τ_194]; rfl
          have g31_τ_194 : τ_194.2.1 31 = τ_85.2.1 31 := by rw [e_τ_194]; rfl
          have g32_τ_194 : τ_194.2.1 32 = τ_85.2.1 32 := by rw [e_τ_194]; rfl
          have g33_τ_194 : τ_194.2.1 33 = τ_85.2.1 33 := by rw [e_τ_194]; rfl
          have g34_τ_194 : τ_194.2.1 34 = τ_85.2.1 34 := by rw [e_τ_194]; rfl
          have g35_τ_194 : τ_194.2.1 35 = τ_85.2.1 35 := by rw [e_τ_194]; rfl
          have g36_τ_194 : τ_194.2.1 36 = τ_85.2.1 36 := by rw [e_τ_194]; rfl
          have g37_τ_194 : τ_194.2.1 37 = τ_85.2.1 37 := by rw [e_τ_194]; rfl
          have g77_τ_194 : τ_194.2.1 77 = τ_85.2.1 77 := by rw [e_τ_194]; rfl
          have g89_τ_194 : τ_194.2.1 89 = (st (τ_85.2.1 89) x20 u6_85) := by rw [e_τ_194]; rfl
          have g90_τ_194 : τ_194.2.1 90 = (st (τ_85.2.1 90) x20 x34) := by rw [e_τ_194]; rfl
          have W4 : τ_194.1 4 = σ.1 4 := by first | exact w4_τ_194.trans W4 | omega
          have W5 : τ_194.1 5 = σ.1 5 := by first | exact w5_τ_194.trans W5 | omega
          have W6 : τ_194.1 6 = σ.1 6 := by first | exact w6_τ_194.trans W6 | omega
          have W7 : τ_194.1 7 = σ.1 7 := by first | exact w7_τ_194.trans W7 | omega
          have W13 : τ_194.1 13 = σ.1 13 := by first | exact w13_τ_194.trans W13 | omega
          have W14 : τ_194.1 14 = σ.1 14 := by first | exact w14_τ_194.trans W14 | omega
          have W15 : τ_194.1 15 = σ.1 15 := by first | exact w15_τ_194.trans W15 | omega
          have W50 : τ_194.1 50 = σ.1 50 := by first | exact w50_τ_194.trans W50 | omega
          have G10 : τ_194.2.1 10 = σ.2.1 10 := (g10_τ_194).trans G10
          have G11 : τ_194.2.1 11 = σ.2.1 11 := (g11_τ_194).trans G11
          have G13 : τ_194.2.1 13 = σ.2.1 13 := (g13_τ_194).trans G13
          have G14 : τ_194.2.1 14 = σ.2.1 14 := (g14_τ_194).trans G14
          have G15 : τ_194.2.1 15 = σ.2.1 15 := (g15_τ_194).trans G15
          have G16 : τ_194.2.1 16 = σ.2.1 16 := (g16_τ_194).trans G16
          have G27 : τ_194.2.1 27 = σ.2.1 27 := (g27_τ_194).trans G27
          have G28 : τ_194.2.1 28 = σ.2.1 28 := (g28_τ_194).trans G28
          have G29 : τ_194.2.1 29 = σ.2.1 29 := (g29_τ_194).trans G29
          have G30 : τ_194.2.1 30 = σ.2.1 30 := (g30_τ_194).trans G30
          have G31 : τ_194.2.1 31 = σ.2.1 31 := (g31_τ_194).trans G31
          have G32 : τ_194.2.1 32 = σ.2.1 32 := (g32_τ_194).trans G32
          have G33 : τ_194.2.1 33 = σ.2.1 33 := (g33_τ_194).trans G33
          have G34 : τ_194.2.1 34 = σ.2.1 34 := (g34_τ_194).trans G34
          have G35 : τ_194.2.1 35 = σ.2.1 35 := (g35_τ_194).trans G35
          have G36 : τ_194.2.1 36 = σ.2.1 36 := (g36_τ_194).trans G36
          have G37 : τ_194.2.1 37 = σ.2.1 37 := (g37_τ_194).trans G37
          have G77 : τ_194.2.1 77 = σ.2.1 77 := (g77_τ_194).trans G77
          have TX : J_vs (τ_194.1 6) (τ_194.1 5) (τ_194.2.1 15) := by rw [show (J_vs (τ_194.1 6) (τ_194.1 5) (τ_194.2.1 15)) = (J_vs (τ_85.1 6) (τ_85.1 5) (τ_85.2.1 15)) from by rw [w5_τ_194, w6_τ_194, g15_τ_194]]; exact TX
          have RKS : J_rks (τ_194.1 5) (τ_194.1 4) (τ_194.2.1 10) (τ_194.2.1 11) := by rw [show (J_rks (τ_194.1 5) (τ_194.1 4) (τ_194.2.1 10) (τ_194.2.1 11)) = (J_rks (τ_85.1 5) (τ_85.1 4) (τ_85.2.1 10) (τ_85.2.1 11)) from by rw [w4_τ_194, w5_τ_194, g10_τ_194, g11_τ_194]]; exact RKS
          have CJ : J_all (τ_194.1 7) (τ_194.1 6) (τ_194.1 13) (τ_194.1 14) (τ_194.1 15) (τ_194.2.1 13) (τ_194.2.1 14) (τ_194.2.1 15) (τ_194.2.1 16) (τ_194.2.1 10) (τ_194.2.1 27) (τ_194.2.1 28) (τ_194.2.1 29) (τ_194.2.1 30) (τ_194.2.1 31) (τ_194.2.1 32) (τ_194.2.1 33) (τ_194.2.1 34) (τ_194.2.1 35) (τ_194.2.1 36) (τ_194.2.1 37) := by rw [show (J_all (τ_194.1 7) (τ_194.1 6) (τ_194.1 13) (τ_194.1 14) (τ_194.1 15) (τ_194.2.1 13) (τ_194.2.1 14) (τ_194.2.1 15) (τ_194.2.1 16) (τ_194.2.1 10) (τ_194.2.1 27) (τ_194.2.1 28) (τ_194.2.1 29) (τ_194.2.1 30) (τ_194.2.1 31) (τ_194.2.1 32) (τ_194.2.1 33) (τ_194.2.1 34) (τ_194.2.1 35) (τ_194.2.1 36) (τ_194.2.1 37)) = (J_all (τ_85.1 7) (τ_85.1 6) (τ_85.1 13) (τ_85.1 14) (τ_85.1 15) (τ_85.2.1 13) (τ_85.2.1 14) (τ_85.2.1 15) (τ_85.2.1 16) (τ_85.2.1 10) (τ_85.2.1 27) (τ_85.2.1 28) (τ_85.2.1 29) (τ_85.2.1 30) (τ_85.2.1 31) (τ_85.2.1 32) (τ_85.2.1 33) (τ_85.2.1 34) (τ_85.2.1 35) (τ_85.2.1 36) (τ_85.2.1 37)) from by rw [w6_τ_194, w7_τ_194, w13_τ_194, w14_τ_194, w15_τ_194, g10_τ_194, g13_τ_194, g14_τ_194, g15_τ_194, g16_τ_194, g27_τ_194, g28_τ_194, g29_τ_194, g30_τ_194, g31_τ_194, g32_τ_194, g33_τ_194, g34_τ_194, g35_τ_194, g36_τ_194, g37_τ_194]]; exact CJ
          have A10 : ∀ j, (-1) ≤ τ_194.2.1 10 j ∧ τ_194.2.1 10 j ≤ 99 := fun j => hT.2 10 j
          have A11 : ∀ j, 0 ≤ τ_194.2.1 11 j ∧ τ_194.2.1 11 j ≤ 999 := fun j => hT.2 11 j
          have A13 : ∀ j, 0 ≤ τ_194.2.1 13 j ∧ τ_194.2.1 13 j ≤ 4 := fun j => hT.2 13 j
          have A14 : ∀ j, 0 ≤ τ_194.2.1 14 j ∧ τ_194.2.1 14 j ≤ 30000 := fun j => hT.2 14 j
          have A15 : ∀ j, 0 ≤ τ_194.2.1 15 j ∧ τ_194.2.1 15 j ≤ 999 := fun j => hT.2 15 j
          have A16 : ∀ j, (-1) ≤ τ_194.2.1 16 j ∧ τ_194.2.1 16 j ≤ 1499 := fun j => hT.2 16 j
          have A27 : ∀ j, 0 ≤ τ_194.2.1 27 j ∧ τ_194.2.1 27 j ≤ 90000 := fun j => hT.2 27 j
          have A28 : ∀ j, 0 ≤ τ_194.2.1 28 j ∧ τ_194.2.1 28 j ≤ 60 := fun j => hT.2 28 j
          have A29 : ∀ j, 0 ≤ τ_194.2.1 29 j ∧ τ_194.2.1 29 j ≤ 1499 := fun j => hT.2 29 j
          have A30 : ∀ j, 0 ≤ τ_194.2.1 30 j ∧ τ_194.2.1 30 j ≤ 20000 := fun j => hT.2 30 j
          have A31 : ∀ j, 0 ≤ τ_194.2.1 31 j ∧ τ_194.2.1 31 j ≤ 20000 := fun j => hT.2 31 j
          have A32 : ∀ j, 0 ≤ τ_194.2.1 32 j ∧ τ_194.2.1 32 j ≤ 999999 := fun j => hT.2 32 j
          have A33 : ∀ j, 0 ≤ τ_194.2.1 33 j ∧ τ_194.2.1 33 j ≤ 20000 := fun j => hT.2 33 j
          have A34 : ∀ j, 0 ≤ τ_194.2.1 34 j ∧ τ_194.2.1 34 j ≤ 20000 := fun j => hT.2 34 j
          have A35 : ∀ j, 0 ≤ τ_194.2.1 35 j ∧ τ_194.2.1 35 j ≤ 1499 := fun j => hT.2 35 j
          have A36 : ∀ j, 0 ≤ τ_194.2.1 36 j ∧ τ_194.2.1 36 j ≤ 20000 := fun j => hT.2 36 j
          have A37 : ∀ j, 0 ≤ τ_194.2.1 37 j ∧ τ_194.2.1 37 j ≤ 19999 := fun j => hT.2 37 j
          have A77 : ∀ j, 0 ≤ τ_194.2.1 77 j ∧ τ_194.2.1 77 j ≤ 999 := fun j => hT.2 77 j
          have A89 : ∀ j, 0 ≤ τ_194.2.1 89 j ∧ τ_194.2.1 89 j ≤ 59 := fun j => hT.2 89 j
          have A90 : ∀ j, 0 ≤ τ_194.2.1 90 j ∧ τ_194.2.1 90 j ≤ 59 := fun j => hT.2 90 j
          have v4 : 0 ≤ τ_194.1 4 ∧ τ_194.1 4 ≤ 100 := hT.1 4
          have v5 : 0 ≤ τ_194.1 5 ∧ τ_194.1 5 ≤ 1000 := hT.1 5
          have v6 : 0 ≤ τ_194.1 6 ∧ τ_194.1 6 ≤ 30000 := hT.1 6
          have v7 : 0 ≤ τ_194.1 7 ∧ τ_194.1 7 ≤ 1500 := hT.1 7
          have v13 : 0 ≤ τ_194.1 13 ∧ τ_194.1 13 ≤ 90000 := hT.1 13
          have v14 : 0 ≤ τ_194.1 14 ∧ τ_194.1 14 ≤ 20000 := hT.1 14
          have v15 : 0 ≤ τ_194.1 15 ∧ τ_194.1 15 ≤ 20000 := hT.1 15
          have v50 : 0 ≤ τ_194.1 50 ∧ τ_194.1 50 ≤ 59 := hT.1 50
          refine h194 _ _ _ _ _ _ ?_
          intro x36 r_x36 h1_x36 h2_x36 h3_x36
          refine ⟨(⟨by (first | omega | (simp only [st_s] <;> omega) | assumption | omega | fail), by (first | omega | (simp only [st_s] <;> omega) | assumption | omega | fail)⟩ : rg (u7_85 + 1)), ?_⟩
          exact ih_85 _ _ _ _ _ (show (61 - (u7_85 + 1) : Int) < ((m_85 : Nat) : Int) from by ((first | omega | (simp only [st_s] <;> omega) | assumption | omega | fail))) hT (show τ_194.1 4 = σ.1 4 from by first | exact W4 | omega) (show τ_194.1 5 = σ.1 5 from by first | exact W5 | omega) (show τ_194.1 6 = σ.1 6 from by first | exact W6 | omega) (show τ_194.1 7 = σ.1 7 from by first | exact W7 | omega) (show τ_194.1 13 = σ.1 13 from by first | exact W13 | omega) (show τ_194.1 14 = σ.1 14 from by first | exact W14 | omega) (show τ_194.1 15 = σ.1 15 from by first | exact W15 | omega) (show τ_194.1 50 = σ.1 50 from by first | exact W50 | omega) G10 G11 G13 G14 G15 G16 G27 G28 G29 G30 G31 G32 G33 G34 G35 G36 G37 G77 (show u4_85 = σ.2.1 14 n1 + 1 from by (first | omega | (simp only [st_s] <;> omega) | assumption | omega | fail)) (show u5_85 = (σ.2.1 14 (n1 + 1) - σ.2.1 14 n1 - 1) from by (first | omega | (simp only [st_s] <;> omega) | assumption | omega | fail)) (show 0 ≤ (u7_85 + 1) ∧ (u7_85 + 1) ≤ u5_85 from by (first | omega | (simp only [st_s] <;> omega) | assumption | omega | fail)) (show n2 ≤ x36 ∧ x36 ≤ n3 from by (first | omega | (simp only [st_s] <;> omega) | assumption | omega | fail)) (show g_fi (σ.1 50) (σ.2.1 14 (n1 + 1) - σ.2.1 14 n1 - 1) n2 n3 0 (σ.2.1 77) (j_sk (σ.2.1 14) (σ.2.1 15) (σ.2.1 16) (σ.2.1 10) n1) (g_H (σ.2.2 4)) (τ_194.2.2 8) from by (first | exact i85_5 | (rw [show τ_194.2.2 8 = τ_85.2.2 8 from by rw [e_τ_194]; rfl]; exact i85_5) | (rw [show (0 : Int) = u6_41 from by omega]; exact i41_4) | fail)) (show g_ps (σ.1 50) (σ.2.1 14 (n1 + 1) - σ.2.1 14 n1 - 1) n2 n3 (u7_85 + 1) x36 (σ.2.1 14 n1 + 1) (σ.2.1 77) (j_sk (σ.2.1 14) (σ.2.1 15) (σ.2.1 16) (σ.2.1 10) n1) (σ.2.1 15) (σ.2.1 16) (τ_194.2.1 89) (τ_194.2.1 90) (g_H (σ.2.2 4)) (τ_194.2.2 8) from by (first | exact g_ps0 | exact g_ps_a i85_6 (by omega) (by rw [show x36 = u6_85 + 1 from by omega]; exact cst.1) (by rw [show x36 = u6_85 + 1 from by omega]; exact cst.2.1) (Or.inl ⟨fz, rfl, rfl⟩) | (rw [show τ_194.2.2 8 = τ_85.2.2 8 from by rw [e_τ_194]; rfl]; exact g_ps_a i85_6 (by omega) (by rw [show x36 = x32 from by omega]; exact vm) (by rw [show x36 = x32 from by omega]; exact vf) (Or.inr ⟨fz, by rw [g89_τ_194, ← e20], by rw [g90_τ_194, ← e20, show x36 = x34 from by omega]⟩)) | fail)) (show τ_194.2.2 4 = σ.2.2 4 from by (first | exact i41_5 | exact i85_7 | (rw [e_τ_194]; exact i85_7) | fail)) (show τ_194.2.2 3 = σ.2.2 3 from by (first | exact i41_6 | exact i85_8 | (rw [e_τ_194]; exact i85_8) | fail))
  have l_41 : ∀ (m_41 : Nat) (u4_41 : Int) (u5_41 : Int) (u6_41 : Int) (τ_41 : S0), 61 + u6_41 < (m_41 : Int) → (c_T τ_41) → (τ_41.1 4 = σ.1 4) → (τ_41.1 5 = σ.1 5) → (τ_41.1 6 = σ.1 6) → (τ_41.1 7 = σ.1 7) → (τ_41.1 13 = σ.1 13) → (τ_41.1 14 = σ.1 14) → (τ_41.1 15 = σ.1 15) → (τ_41.1 50 = σ.1 50) → (τ_41.2.1 10 = σ.2.1 10) → (τ_41.2.1 11 = σ.2.1 11) → (τ_41.2.1 13 = σ.2.1 13) → (τ_41.2.1 14 = σ.2.1 14) → (τ_41.2.1 15 = σ.2.1 15) → (τ_41.2.1 16 = σ.2.1 16) → (τ_41.2.1 27 = σ.2.1 27) → (τ_41.2.1 28 = σ.2.1 28) → (τ_41.2.1 29 = σ.2.1 29) → (τ_41.2.1 30 = σ.2.1 30) → (τ_41.2.1 31 = σ.2.1 31) → (τ_41.2.1 32 = σ.2.1 32) → (τ_41.2.1 33 = σ.2.1 33) → (τ_41.2.1 34 = σ.2.1 34) → (τ_41.2.1 35 = σ.2.1 35) → (τ_41.2.1 36 = σ.2.1 36) → (τ_41.2.1 37 = σ.2.1 37) → (τ_41.2.1 77 = σ.2.1 77) → (u4_41 = σ.2.1 14 n1 + 1) → (u5_41 = (σ.2.1 14 (n1 + 1) - σ.2.1 14 n1 - 1)) → (0 ≤ u6_41 ∧ u6_41 < u5_41) → (g_fi (σ.1 50) (σ.2.1 14 (n1 + 1) - σ.2.1 14 n1 - 1) n2 n3 u6_41 (σ.2.1 77) (j_sk (σ.2.1 14) (σ.2.1 15) (σ.2.1 16) (σ.2.1 10) n1) (g_H (σ.2.2 4)) (τ_41.2.2 8)) → (τ_41.2.2 4 = σ.2.2 4) → (τ_41.2.2 3 = σ.2.2 3) → P41 n2 n3 u4_41 u5_41 u6_41 τ_41 := by
    intro m_41
    induction m_41 with
    | zero =>
      intro u4_41 u5_41 u6_41 τ_41 hm hT W4 W5 W6 W7 W13 W14 W15 W50 G10 G11 G13 G14 G15 G16 G27 G28 G29 G30 G31 G32 G33 G34 G35 G36 G37 G77 i41_1 i41_2 i41_3 i41_4 i41_5 i41_6
      have A10 : ∀ j, (-1) ≤ τ_41.2.1 10 j ∧ τ_41.2.1 10 j ≤ 99 := fun j => hT.2 10 j
      have A11 : ∀ j, 0 ≤ τ_41.2.1 11 j ∧ τ_41.2.1 11 j ≤ 999 := fun j => hT.2 11 j
      have A13 : ∀ j, 0 ≤ τ_41.2.1 13 j ∧ τ_41.2.1 13 j ≤ 4 := fun j => hT.2 13 j
      have A14 : ∀ j, 0 ≤ τ_41.2.1 14 j ∧ τ_41.2.1 14 j ≤ 30000 := fun j => hT.2 14 j
      have A15 : ∀ j, 0 ≤ τ_41.2.1 15 j ∧ τ_41.2.1 15 j ≤ 999 := fun j => hT.2 15 j
      have A16 : ∀ j, (-1) ≤ τ_41.2.1 16 j ∧ τ_41.2.1 16 j ≤ 1499 := fun j => hT.2 16 j
      have A27 : ∀ j, 0 ≤ τ_41.2.1 27 j ∧ τ_41.2.1 27 j ≤ 90000 := fun j => hT.2 27 j
      have A28 : ∀ j, 0 ≤ τ_41.2.1 28 j ∧ τ_41.2.1 28 j ≤ 60 := fun j => hT.2 28 j
      have A29 : ∀ j, 0 ≤ τ_41.2.1 29 j ∧ τ_41.2.1 29 j ≤ 1499 := fun j => hT.2 29 j
      have A30 : ∀ j, 0 ≤ τ_41.2.1 30 j ∧ τ_41.2.1 30 j ≤ 20000 := fun j => hT.2 30 j
      have A31 : ∀ j, 0 ≤ τ_41.2.1 31 j ∧ τ_41.2.1 31 j ≤ 20000 := fun j => hT.2 31 j
      have A32 : ∀ j, 0 ≤ τ_41.2.1 32 j ∧ τ_41.2.1 32 j ≤ 999999 := fun j => hT.2 32 j
      have A33 : ∀ j, 0 ≤ τ_41.2.1 33 j ∧ τ_41.2.1 33 j ≤ 20000 := fun j => hT.2 33 j
      have A34 : ∀ j, 0 ≤ τ_41.2.1 34 j ∧ τ_41.2.1 34 j ≤ 20000 := fun j => hT.2 34 j
      have A35 : ∀ j, 0 ≤ τ_41.2.1 35 j ∧ τ_41.2.1 35 j ≤ 1499 := fun j => hT.2 35 j
      have A36 : ∀ j, 0 ≤ τ_41.2.1 36 j ∧ τ_41.2.1 36 j ≤ 20000 := fun j => hT.2 36 j
      have A37 : ∀ j, 0 ≤ τ_41.2.1 37 j ∧ τ_41.2.1 37 j ≤ 19999 := fun j => hT.2 37 j
      have A77 : ∀ j, 0 ≤ τ_41.2.1 77 j ∧ τ_41.2.1 77 j ≤ 999 := fun j => hT.2 77 j
      have A89 : ∀ j, 0 ≤ τ_41.2.1 89 j ∧ τ_41.2.1 89 j ≤ 59 := fun j => hT.2 89 j
      have A90 : ∀ j, 0 ≤ τ_41.2.1 90 j ∧ τ_41.2.1 90 j ≤ 59 := fun j => hT.2 90 j
      have v4 : 0 ≤ τ_41.1 4 ∧ τ_41.1 4 ≤ 100 := hT.1 4
      have v5 : 0 ≤ τ_41.1 5 ∧ τ_41.1 5 ≤ 1000 := hT.1 5
      have v6 : 0 ≤ τ_41.1 6 ∧ τ_41.1 6 ≤ 30000 := hT.1 6
      have v7 : 0 ≤ τ_41.1 7 ∧ τ_41.1 7 ≤ 1500 := hT.1 7
      have v13 : 0 ≤ τ_41.1 13 ∧ τ_41.1 13 ≤ 90000 := hT.1 13
      have v14 : 0 ≤ τ_41.1 14 ∧ τ_41.1 14 ≤ 20000 := hT.1 14
      have v15 : 0 ≤ τ_41.1 15 ∧ τ_41.1 15 ≤ 20000 := hT.1 15
      have v50 : 0 ≤ τ_41.1 50 ∧ τ_41.1 50 ≤ 59 := hT.1 50
      exfalso; (first | omega | (simp only [st_s] <;> omega) | assumption | omega | fail)
    | succ m_41 ih_41 =>
      intro u4_41 u5_41 u6_41 τ_41 hm_41 hT W4 W5 W6 W7 W13 W14 W15 W50 G10 G11 G13 G14 G15 G16 G27 G28 G29 G30 G31 G32 G33 G34 G35 G36 G37 G77 i41_1 i41_2 i41_3 i41_4 i41_5 i41_6
      have A10 : ∀ j, (-1) ≤ τ_41.2.1 10 j ∧ τ_41.2.1 10 j ≤ 99 := fun j => hT.2 10 j
      have A11 : ∀ j, 0 ≤ τ_41.2.1 11 j ∧ τ_41.2.1 11 j ≤ 999 := fun j => hT.2 11 j
      have A13 : ∀ j, 0 ≤ τ_41.2.1 13 j ∧ τ_41.2.1 13 j ≤ 4 := fun j => hT.2 13 j
      have A14 : ∀ j, 0 ≤ τ_41.2.1 14 j ∧ τ_41.2.1 14 j ≤ 30000 := fun j => hT.2 14 j
      have A15 : ∀ j, 0 ≤ τ_41.2.1 15 j ∧ τ_41.2.1 15 j ≤ 999 := fun j => hT.2 15 j
      have A16 : ∀ j, (-1) ≤ τ_41.2.1 16 j ∧ τ_41.2.1 16 j ≤ 1499 := fun j => hT.2 16 j
      have A27 : ∀ j, 0 ≤ τ_41.2.1 27 j ∧ τ_41.2.1 27 j ≤ 90000 := fun j => hT.2 27 j
      have A28 : ∀ j, 0 ≤ τ_41.2.1 28 j ∧ τ_41.2.1 28 j ≤ 60 := fun j => hT.2 28 j
      have A29 : ∀ j, 0 ≤ τ_41.2.1 29 j ∧ τ_41.2.1 29 j ≤ 1499 := fun j => hT.2 29 j
      have A30 : ∀ j, 0 ≤ τ_41.2.1 30 j ∧ τ_41.2.1 30 j ≤ 20000 := fun j => hT.2 30 j
      have A31 : ∀ j, 0 ≤ τ_41.2.1 31 j ∧ τ_41.2.1 31 j ≤ 20000 := fun j => hT.2 31 j
      have A32 : ∀ j, 0 ≤ τ_41.2.1 32 j ∧ τ_41.2.1 32 j ≤ 999999 := fun j => hT.2 32 j
      have A33 : ∀ j, 0 ≤ τ_41.2.1 33 j ∧ τ_41.2.1 33 j ≤ 20000 := fun j => hT.2 33 j
      have A34 : ∀ j, 0 ≤ τ_41.2.1 34 j ∧ τ_41.2.1 34 j ≤ 20000 := fun j => hT.2 34 j
      have A35 : ∀ j, 0 ≤ τ_41.2.1 35 j ∧ τ_41.2.1 35 j ≤ 1499 := fun j => hT.2 35 j
      have A36 : ∀ j, 0 ≤ τ_41.2.1 36 j ∧ τ_41.2.1 36 j ≤ 20000 := fun j => hT.2 36 j
      have A37 : ∀ j, 0 ≤ τ_41.2.1 37 j ∧ τ_41.2.1 37 j ≤ 19999 := fun j => hT.2 37 j
      have A77 : ∀ j, 0 ≤ τ_41.2.1 77 j ∧ τ_41.2.1 77 j ≤ 999 := fun j => hT.2 77 j
      have A89 : ∀ j, 0 ≤ τ_41.2.1 89 j ∧ τ_41.2.1 89 j ≤ 59 := fun j => hT.2 89 j
      have A90 : ∀ j, 0 ≤ τ_41.2.1 90 j ∧ τ_41.2.1 90 j ≤ 59 := fun j => hT.2 90 j
      have v4 : 0 ≤ τ_41.1 4 ∧ τ_41.1 4 ≤ 100 := hT.1 4
      have v5 : 0 ≤ τ_41.1 5 ∧ τ_41.1 5 ≤ 1000 := hT.1 5
      have v6 : 0 ≤ τ_41.1 6 ∧ τ_41.1 6 ≤ 30000 := hT.1 6
      have v7 : 0 ≤ τ_41.1 7 ∧ τ_41.1 7 ≤ 1500 := hT.1 7
      have v13 : 0 ≤ τ_41.1 13 ∧ τ_41.1 13 ≤ 90000 := hT.1 13
      have v14 : 0 ≤ τ_41.1 14 ∧ τ_41.1 14 ≤ 20000 := hT.1 14
      have v15 : 0 ≤ τ_41.1 15 ∧ τ_41.1 15 ≤ 20000 := hT.1 15
      have v50 : 0 ≤ τ_41.1 50 ∧ τ_41.1 50 ≤ 59 := hT.1 50
      have TX : J_vs (τ_41.1 6) (τ_41.1 5) (τ_41.2.1 15) := by rw [show (J_vs (τ_41.1 6) (τ_41.1 5) (τ_41.2.1 15)) = (J_vs (σ.1 6) (σ.1 5) (σ.2.1 15)) from by rw [W5, W6, G15]]; exact TX_0
      have RKS : J_rks (τ_41.1 5) (τ_41.1 4) (τ_41.2.1 10) (τ_41.2.1 11) := by rw [show (J_rks (τ_41.1 5) (τ_41.1 4) (τ_41.2.1 10) (τ_41.2.1 11)) = (J_rks (σ.1 5) (σ.1 4) (σ.2.1 10) (σ.2.1 11)) from by rw [W4, W5, G10, G11]]; exact RKS_0
      have CJ : J_all (τ_41.1 7) (τ_41.1 6) (τ_41.1 13) (τ_41.1 14) (τ_41.1 15) (τ_41.2.1 13) (τ_41.2.1 14) (τ_41.2.1 15) (τ_41.2.1 16) (τ_41.2.1 10) (τ_41.2.1 27) (τ_41.2.1 28) (τ_41.2.1 29) (τ_41.2.1 30) (τ_41.2.1 31) (τ_41.2.1 32) (τ_41.2.1 33) (τ_41.2.1 34) (τ_41.2.1 35) (τ_41.2.1 36) (τ_41.2.1 37) := by rw [show (J_all (τ_41.1 7) (τ_41.1 6) (τ_41.1 13) (τ_41.1 14) (τ_41.1 15) (τ_41.2.1 13) (τ_41.2.1 14) (τ_41.2.1 15) (τ_41.2.1 16) (τ_41.2.1 10) (τ_41.2.1 27) (τ_41.2.1 28) (τ_41.2.1 29) (τ_41.2.1 30) (τ_41.2.1 31) (τ_41.2.1 32) (τ_41.2.1 33) (τ_41.2.1 34) (τ_41.2.1 35) (τ_41.2.1 36) (τ_41.2.1 37)) = (J_all (σ.1 7) (σ.1 6) (σ.1 13) (σ.1 14) (σ.1 15) (σ.2.1 13) (σ.2.1 14) (σ.2.1 15) (σ.2.1 16) (σ.2.1 10) (σ.2.1 27) (σ.2.1 28) (σ.2.1 29) (σ.2.1 30) (σ.2.1 31) (σ.2.1 32) (σ.2.1 33) (σ.2.1 34) (σ.2.1 35) (σ.2.1 36) (σ.2.1 37)) from by rw [W6, W7, W13, W14, W15, G10, G13, G14, G15, G16, G27, G28, G29, G30, G31, G32, G33, G34, G35, G36, G37]]; exact CJ_0
      refine h41 n2 n3 u4_41 u5_41 u6_41 τ_41 ?_
      refine ⟨fun c9 => ?_, fun c9 => ?_⟩
      ·
        exact l_85 ((61 - 0 : Int).toNat + 1) _ _ _ _ _ (show (61 - 0 : Int) < (((61 - 0 : Int).toNat + 1 : Nat) : Int) from by ((first | omega | (simp only [st_s] <;> omega) | assumption | omega | fail))) hT (show τ_41.1 4 = σ.1 4 from by first | exact W4 | omega) (show τ_41.1 5 = σ.1 5 from by first | exact W5 | omega) (show τ_41.1 6 = σ.1 6 from by first | exact W6 | omega) (show τ_41.1 7 = σ.1 7 from by first | exact W7 | omega) (show τ_41.1 13 = σ.1 13 from by first | exact W13 | omega) (show τ_41.1 14 = σ.1 14 from by first | exact W14 | omega) (show τ_41.1 15 = σ.1 15 from by first | exact W15 | omega) (show τ_41.1 50 = σ.1 50 from by first | exact W50 | omega) G10 G11 G13 G14 G15 G16 G27 G28 G29 G30 G31 G32 G33 G34 G35 G36 G37 G77 (show u4_41 = σ.2.1 14 n1 + 1 from by (first | omega | (simp only [st_s] <;> omega) | assumption | omega | fail)) (show u5_41 = (σ.2.1 14 (n1 + 1) - σ.2.1 14 n1 - 1) from by (first | omega | (simp only [st_s] <;> omega) | assumption | omega | fail)) (show 0 ≤ 0 ∧ 0 ≤ u5_41 from by (first | omega | (simp only [st_s] <;> omega) | assumption | omega | fail)) (show n2 ≤ n2 ∧ n2 ≤ n3 from by (first | omega | (simp only [st_s] <;> omega) | assumption | omega | fail)) (show g_fi (σ.1 50) (σ.2.1 14 (n1 + 1) - σ.2.1 14 n1 - 1) n2 n3 0 (σ.2.1 77) (j_sk (σ.2.1 14) (σ.2.1 15) (σ.2.1 16) (σ.2.1 10) n1) (g_H (σ.2.2 4)) (τ_41.2.2 8) from by (first | exact i85_5 | (rw [show τ_194.2.2 8 = τ_85.2.2 8 from by rw [e_τ_194]; rfl]; exact i85_5) | (rw [show (0 : Int) = u6_41 from by omega]; exact i41_4) | fail)) (show g_ps (σ.1 50) (σ.2.1 14 (n1 + 1) - σ.2.1 14 n1 - 1) n2 n3 0 n2 (σ.2.1 14 n1 + 1) (σ.2.1 77) (j_sk (σ.2.1 14) (σ.2.1 15) (σ.2.1 16) (σ.2.1 10) n1) (σ.2.1 15) (σ.2.1 16) (τ_41.2.1 89) (τ_41.2.1 90) (g_H (σ.2.2 4)) (τ_41.2.2 8) from by (first | exact g_ps0 | exact g_ps_a i85_6 (by omega) (by rw [show x36 = u6_85 + 1 from by omega]; exact cst.1) (by rw [show x36 = u6_85 + 1 from by omega]; exact cst.2.1) (Or.inl ⟨fz, rfl, rfl⟩) | (rw [show τ_194.2.2 8 = τ_85.2.2 8 from by rw [e_τ_194]; rfl]; exact g_ps_a i85_6 (by omega) (by rw [show x36 = x32 from by omega]; exact vm) (by rw [show x36 = x32 from by omega]; exact vf) (Or.inr ⟨fz, by rw [g89_τ_194, ← e20], by rw [g90_τ_194, ← e20, show x36 = x34 from by omega]⟩)) | fail)) (show τ_41.2.2 4 = σ.2.2 4 from by (first | exact i41_5 | exact i85_7 | (rw [e_τ_194]; exact i85_7) | fail)) (show τ_41.2.2 3 = σ.2.2 3 from by (first | exact i41_6 | exact i85_8 | (rw [e_τ_194]; exact i85_8) | fail))
      ·
        refine ⟨(show 0 ≤ (u6_41 + 1) ∧ (u6_41 + 1) < 61 from by (first | omega | (simp only [st_s] <;> omega) | assumption | omega | fail)), ?_⟩
        intro x11 e_x11
        refine ⟨(⟨by (first | omega | (simp only [st_s] <;> omega) | assumption | omega | fail), by (first | omega | (simp only [st_s] <;> omega) | assumption | omega | fail)⟩ : rg (u4_41 + u6_41)), ?_⟩
        have o14 := G14
        have o15 := G15
        have o16 := G16
        have o10 := G10
        have flk := flv u6_41 (by omega) (by omega)
        refine ⟨_, K_X11_startsOf hT (show 0 ≤ (u4_41 + u6_41) from by (first | omega | (simp only [st_s] <;> omega) | assumption | omega | fail)) (show (u4_41 + u6_41) < 30000 from by (first | omega | (simp only [st_s] <;> omega) | assumption | omega | fail)) (show ¬ τ_41.2.1 16 (u4_41 + u6_41) = -1 → τ_41.2.1 14 (τ_41.2.1 16 (u4_41 + u6_41)) < 30000 ∧ 0 ≤ (τ_41.2.1 10 (τ_41.2.1 15 (τ_41.2.1 14 (τ_41.2.1 16 (u4_41 + u6_41))))) from by (rw [o16, o14, o10, o15, i41_1]; intro z; exact ⟨(flk z).1.2, (flk z).2.1⟩)) (show 0 ≤ n2 from by (first | omega | (simp only [st_s] <;> omega) | assumption | omega | fail)) (show n2 ≤ n3 from by (first | omega | (simp only [st_s] <;> omega) | assumption | omega | fail)) (show n3 ≤ 59 from by (first | omega | (simp only [st_s] <;> omega) | assumption | omega | fail)), ?_⟩
        intro x14 hq
        obtain ⟨q13_1, q13_2⟩ := hq
        replace q13_1 : τ_41.2.1 16 (u4_41 + u6_41) = -1 → x14 = τ_41.2.2 3 (τ_41.2.1 15 (u4_41 + u6_41)) &&& j_ushr x11 1 := q13_1
        replace q13_2 : ¬ τ_41.2.1 16 (u4_41 + u6_41) = -1 → ∀ q : Int, 0 ≤ q → q < 64 → (j_b x14 q ↔ n2 ≤ q ∧ q < n3 ∧ ∃ q2 : Int, 0 ≤ q2 ∧ q2 < 64 ∧ g_H (τ_41.2.2 4) (τ_41.2.1 10 (τ_41.2.1 15 (τ_41.2.1 14 (τ_41.2.1 16 (u4_41 + u6_41))))) q q2 ∧ j_b x11 q2) := q13_2
        have f1 : g_f1 (σ.1 50) (σ.2.1 14 (n1 + 1) - σ.2.1 14 n1 - 1) n2 n3 u6_41 (σ.2.1 77) (j_sk (σ.2.1 14) (σ.2.1 15) (σ.2.1 16) (σ.2.1 10) n1) (g_H (σ.2.2 4)) x14 x11 := by (by_cases z : σ.2.1 16 (σ.2.1 14 n1 + 1 + u6_41) = -1; (have w := q13_1 (by rw [o16, i41_1]; exact z); rw [w, i41_6, o15, i41_1]; exact g_f1_c (by rw [g_skc z]; exact (s15 _).1) (by omega) (fun q a b => by rw [g_skc z]; exact p7 _ q (s15 _).1 (by have := (s15 (σ.2.1 14 n1 + 1 + u6_41)).2; omega) a b)); (have w := q13_2 (by rw [o16, i41_1]; exact z); rw [i41_5, o10, o15, o14, o16, i41_1] at w; exact g_f1_v (g_skv z) (flk z).2.1 (fun q q2 a b c e h => p8 _ q q2 (flk z).2.1 (flk z).2.2 (by omega) (by omega) c e h) w))
        refine ⟨(show 0 ≤ u6_41 ∧ u6_41 < 61 from by (first | omega | (simp only [st_s] <;> omega) | assumption | omega | fail)), ?_⟩
        replace hT := cT_b (k := 8) (j := u6_41) (x := x14) hT
        refine ⟨(⟨by (first | omega | (simp only [st_s] <;> omega) | assumption | omega | fail), by (first | omega | (simp only [st_s] <;> omega) | assumption | omega | fail)⟩ : rg (u6_41 + (-1))), ?_⟩
        exact ih_41 _ _ _ _ (show (61 + (u6_41 + (-1)) : Int) < ((m_41 : Nat) : Int) from by ((first | omega | (simp only [st_s] <;> omega) | assumption | omega | fail))) hT (show τ_41.1 4 = σ.1 4 from by first | exact W4 | omega) (show τ_41.1 5 = σ.1 5 from by first | exact W5 | omega) (show τ_41.1 6 = σ.1 6 from by first | exact W6 | omega) (show τ_41.1 7 = σ.1 7 from by first | exact W7 | omega) (show τ_41.1 13 = σ.1 13 from by first | exact W13 | omega) (show τ_41.1 14 = σ.1 14 from by first | exact W14 | omega) (show τ_41.1 15 = σ.1 15 from by first | exact W15 | omega) (show τ_41.1 50 = σ.1 50 from by first | exact W50 | omega) G10 G11 G13 G14 G15 G16 G27 G28 G29 G30 G31 G32 G33 G34 G35 G36 G37 G77 (show u4_41 = σ.2.1 14 n1 + 1 from by (first | omega | (simp only [st_s] <;> omega) | assumption | omega | fail)) (show u5_41 = (σ.2.1 14 (n1 + 1) - σ.2.1 14 n1 - 1) from by (first | omega | (simp only [st_s] <;> omega) | assumption | omega | fail)) (show 0 ≤ (u6_41 + (-1)) ∧ (u6_41 + (-1)) < u5_41 from by (first | omega | (simp only [st_s] <;> omega) | assumption | omega | fail)) (show g_fi (σ.1 50) (σ.2.1 14 (n1 + 1) - σ.2.1 14 n1 - 1) n2 n3 (u6_41 + (-1)) (σ.2.1 77) (j_sk (σ.2.1 14) (σ.2.1 15) (σ.2.1 16) (σ.2.1 10) n1) (g_H (σ.2.2 4)) ((st (τ_41.2.2 8) u6_41 x14)) from by (first | (rw [eL]; exact g_fi0 (fun q a b => j_b_one (by omega) (by omega) a b)) | (rw [show u6_41 + (-1) = u6_41 - 1 from by omega]; exact g_fi_a i41_4 (by omega) (by rw [e_x11] at f1; exact f1)) | fail)) (show τ_41.2.2 4 = σ.2.2 4 from by (first | rfl | exact i41_5 | fail)) (show τ_41.2.2 3 = σ.2.2 3 from by (first | rfl | exact i41_6 | fail))
  refine ⟨(show 0 ≤ n1 ∧ n1 < 1501 from by (first | omega | (simp only [st_s] <;> omega) | assumption | omega | fail)), ?_⟩
  intro x2 r_x2 e_x2
  have b_x2 : 0 ≤ x2 ∧ x2 ≤ 30000 := by rw [e_x2]; exact hT.2 14 _
  have e2 := e_x2
  refine ⟨_, K_X3_lengthOf hT (show 0 ≤ n1 from by (first | omega | (simp only [st_s] <;> omega) | assumption | omega | fail)) (show n1 < 1500 from by (first | omega | (simp only [st_s] <;> omega) | assumption | omega | fail)), ?_⟩
  intro x4 r_x4 hq
  have q3_1 := hq
  replace q3_1 : x4 = σ.2.1 14 (n1 + 1) - σ.2.1 14 n1 := q3_1
  have eL : x4 - 1 = (σ.2.1 14 (n1 + 1) - σ.2.1 14 n1 - 1) := by omega
  refine ⟨(show 0 ≤ (x4 - 1) ∧ (x4 - 1) < 61 from by (first | omega | (simp only [st_s] <;> omega) | assumption | omega | fail)), ?_⟩
  replace hT := cT_b (k := 8) (j := (x4 - 1)) (x := (j_shl 1 n3)) hT
  refine ⟨(⟨by (first | omega | (simp only [st_s] <;> omega) | assumption | omega | fail), by (first | omega | (simp only [st_s] <;> omega) | assumption | omega | fail)⟩ : rg (x2 + 1)), ?_⟩
  refine ⟨(⟨by (first | omega | (simp only [st_s] <;> omega) | assumption | omega | fail), by (first | omega | (simp only [st_s] <;> omega) | assumption | omega | fail)⟩ : rg ((x4 - 1) - 1)), ?_⟩
  exact l_41 ((61 + ((x4 - 1) - 1) : Int).toNat + 1) _ _ _ _ (show (61 + ((x4 - 1) - 1) : Int) < (((61 + ((x4 - 1) - 1) : Int).toNat + 1 : Nat) : Int) from by ((first | omega | (simp only [st_s] <;> omega) | assumption | omega | fail))) hT (show σ.1 4 = σ.1 4 from by first | exact W4 | omega) (show σ.1 5 = σ.1 5 from by first | exact W5 | omega) (show σ.1 6 = σ.1 6 from by first | exact W6 | omega) (show σ.1 7 = σ.1 7 from by first | exact W7 | omega) (show σ.1 13 = σ.1 13 from by first | exact W13 | omega) (show σ.1 14 = σ.1 14 from by first | exact W14 | omega) (show σ.1 15 = σ.1 15 from by first | exact W15 | omega) (show σ.1 50 = σ.1 50 from by first | exact W50 | omega) G10 G11 G13 G14 G15 G16 G27 G28 G29 G30 G31 G32 G33 G34 G35 G36 G37 G77 (show (x2 + 1) = σ.2.1 14 n1 + 1 from by (first | omega | (simp only [st_s] <;> omega) | assumption | omega | fail)) (show (x4 - 1) = (σ.2.1 14 (n1 + 1) - σ.2.1 14 n1 - 1) from by (first | omega | (simp only [st_s] <;> omega) | assumption | omega | fail)) (show 0 ≤ ((x4 - 1) - 1) ∧ ((x4 - 1) - 1) < (x4 - 1) from by (first | omega | (simp only [st_s] <;> omega) | assumption | omega | fail)) (show g_fi (σ.1 50) (σ.2.1 14 (n1 + 1) - σ.2.1 14 n1 - 1) n2 n3 ((x4 - 1) - 1) (σ.2.1 77) (j_sk (σ.2.1 14) (σ.2.1 15) (σ.2.1 16) (σ.2.1 10) n1) (g_H (σ.2.2 4)) ((st (σ.2.2 8) (x4 - 1) (j_shl 1 n3))) from by (first | (rw [eL]; exact g_fi0 (fun q a b => j_b_one (by omega) (by omega) a b)) | (rw [show u6_41 + (-1) = u6_41 - 1 from by omega]; exact g_fi_a i41_4 (by omega) (by rw [e_x11] at f1; exact f1)) | fail)) (show σ.2.2 4 = σ.2.2 4 from by (first | rfl | exact i41_5 | fail)) (show σ.2.2 3 = σ.2.2 3 from by (first | rfl | exact i41_6 | fail))
