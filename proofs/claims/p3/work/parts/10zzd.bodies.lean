-- pure: bodies of definitions, rows without them
theorem g_pp_x {sz x : Int} {kd a fl fa fs hy ru rv : Int → Int} (e : ∀ j : Int, 0 ≤ j → j < sz → ru j = rv j) (s1 : 1 ≤ sz) (h : g_pp sz x kd a fl fa fs hy ru) : g_pp sz x kd a fl fa fs hy rv := by
  obtain ⟨h1, h2, p, l, v, ⟨b1, b2, b3⟩, h5, h6⟩ := h
  have e0 := e 0 (Int.le_refl _) (by omega)
  have nar : ∀ m : Int, m ≤ sz → sm (g_nar kd fs rv) m = sm (g_nar kd fs ru) m := fun m hm => sm_x (fun j j0 j1 => by unfold g_nar; rw [e j j0 (by omega)])
  rw [e0] at h1 h2 v h6
  exact ⟨h1, h2, p, l, v, ⟨b1, by rw [nar l (by omega), nar 1 (by omega)]; exact b2, fun m m0 m1 => by rw [nar m (by omega), nar 1 (by omega)]; exact b3 m m0 m1⟩, h5, h6⟩
theorem g_fx_x {sz ft u : Int} {kd a tx ru rv : Int → Int} (e : ∀ j : Int, 0 ≤ j → j < sz → ru j = rv j) (f0 : 0 ≤ ft) (fu : ft + u ≤ sz) (h : g_fx ft u kd a tx ru) : g_fx ft u kd a tx rv := fun k k0 k1 => by
  have w := h k k0 k1
  rw [e (ft + k) (by omega) (by omega)] at w
  exact ⟨w.1, fun x x0 x1 => by rw [← e (ft + x) (by omega) (by omega)]; exact w.2 x x0 x1⟩
/-- the tree that is grown is the one that was studied -/
theorem c_DT_u {σ : S0} {par nof : Int → Int} {In : Int → Prop} {i x sz : Int} {rv : Int → Int} (hT : c_T σ) (hJ : c_J σ) (dt : c_DT In σ i x) (rs : c_Rs σ par nof In) (gr : c_GR σ par nof In) (pvf : g_pvf σ (σ.1 48)) (wf : g_wf σ (σ.1 49)) (hl : σ.1 50 = σ.2.1 14 (i + 1) - σ.2.1 14 i - 1) (hi : σ.1 51 = i) (rw' : ∀ k : Int, 0 ≤ k → k < σ.1 50 → σ.2.1 77 k = σ.2.1 15 (σ.2.1 14 i + 1 + k) ∧ σ.2.1 78 k = σ.2.1 16 (σ.2.1 14 i + 1 + k)) (tg : σ.2.1 15 (σ.2.1 14 i) = σ.1 48 → σ.1 52 = -1 ∨ (¬ σ.1 49 = -1 ∧ σ.1 52 = σ.2.1 10 (σ.1 49))) (s0 : 0 ≤ sz) (h : g_T (σ.1 50) (σ.1 51) (σ.1 48) (σ.2.1 77) (σ.2.1 78) (σ.2.1 13) (σ.2.1 14) (σ.2.1 15) (σ.2.1 16) (σ.2.1 10) (σ.2.1 27) (σ.2.1 28) (σ.2.1 29) In (σ.1 52) 0 (σ.1 50) (g_pre rv sz.toNat)) : ∃ ft : Int, g_pp sz ft (σ.2.1 13) (σ.2.1 14) (σ.2.1 16) (σ.2.1 27) (σ.2.1 28) (σ.2.1 29) rv ∧ (0 ≤ ft ∧ ft + σ.2.1 28 (rv ft) < sz) ∧ x = rv ft + 1 ∧ σ.2.1 13 (rv ft) = 2 ∧ g_fx ft (σ.2.1 28 (rv ft) + 1) (σ.2.1 13) (σ.2.1 14) (σ.2.1 15) rv := by
  obtain ⟨h1, p, w, sz2, ft, ru, ⟨a1, a2, a3, a4, a5⟩, ⟨s1, nd⟩, c, d1, ⟨d2, d3⟩, d4, d5, d6⟩ := dt
  have e48 := pvf p a4 a1
  have e49 := wf w a5 a2
  obtain ⟨lk, ok, ⟨g0, g1⟩, len0, ⟨gh, gs⟩, wu, uq⟩ := gr
  have eg : σ.1 52 = σ.2.1 10 w := by
    have z := (tg (by rw [a3, e48])).resolve_left (by omega)
    rw [z.2, e49]
  have s14 : ∀ j, 0 ≤ σ.2.1 14 j := fun j => (hT.2 14 j).1
  have s15 : ∀ j, 0 ≤ σ.2.1 15 j := fun j => (hT.2 15 j).1
  have s28 : ∀ j, 0 ≤ σ.2.1 28 j := fun j => (hT.2 28 j).1
  have s29 : ∀ j, 0 ≤ σ.2.1 29 j := fun j => (hT.2 29 j).1
  have l48 : -1 ≤ σ.1 48 := (hT.1 48).1
  have l50 : σ.1 50 ≤ 59 := (hT.1 50).2
  have ru2 := rs.1.2.1.2.1
  have rl : ∀ r : Int, In r → σ.2.1 14 r + 2 ≤ σ.2.1 14 (r + 1) ∧ σ.2.1 13 r = 2 ∧ ¬ σ.2.1 15 (σ.2.1 14 r) = σ.1 48 ∧ g_nv r (σ.2.1 14) (σ.2.1 15) (σ.2.1 16) ∧ g_pa r (σ.2.1 14 (r + 1) - σ.2.1 14 r - 1) (σ.1 45) (nof r) (σ.2.1 14) (σ.2.1 15) (σ.2.1 16) (σ.2.1 10) (σ.2.1 69) (σ.2.1 70) par := fun r hr => by
    have q := ru2 r hr
    have q4 := rs.1.2.2.2.1 r hr
    exact ⟨q.2.1.2.1, q.2.1.1, g_p1_x q4.1 rs.2.1 (s15 _) l48, q4.2, q.2.2.2.1⟩
  have r0 : ∀ r k : Int, In r → 0 ≤ k → k < σ.2.1 28 r → 0 ≤ σ.2.1 10 (σ.2.1 15 (σ.2.1 14 (σ.2.1 29 (σ.2.1 27 r + k)))) := fun r k hr k0 k1 => by
    have q := ru2 r hr
    have l47 := rs.2.2
    have J := hJ.1 r q.1.1 (by omega)
    have kd2 := q.2.1.1
    obtain ⟨f1, f2, _⟩ := J.2.1 (by omega)
    have y := f2 k k0 k1
    exact (hJ.1 _ (s29 (σ.2.1 27 r + k)) (by omega)).1.2.1
  rw [← hl, ← eg, ← e48] at c
  rw [hi] at h uq
  have c2 := g_T_rw (row2 := σ.2.1 77) (lf2 := σ.2.1 78) (fun r hr => (rl r hr).1) (fun k k0 k1 => rw' k k0 k1) c
  have q := g_T_u l50 rl s15 s28 r0 uq h gs _ c2
  obtain ⟨q1, q2⟩ := g_pre_q (by omega) s0 q
  rw [q1] at q2 d1 d3 s1
  have ef := q2 ft d2 (by have := s28 (ru ft); omega)
  have d1' := g_pp_x q2 s1 d1
  have d6' := g_fx_x q2 d2 (by omega) d6
  rw [ef] at d3 d4 d5 d6'
  exact ⟨ft, d1', ⟨d2, d3⟩, d4, d5, d6'⟩
/-- a length of the bodies' array -/
def c_l7 (x : Int) : Prop := x = 16384 ∨ x = 32768 ∨ x = 65536 ∨ x = 131072 ∨ x = 262144 ∨ x = 524288 ∨ x = 1048576
theorem c_l7_2 {x y : Int} (h : c_l7 x) (l : x < y) (m : y ≤ 900000) : 2 * x ≤ 1048576 ∧ c_l7 (2 * x) := by
  unfold c_l7 at h ⊢
  constructor <;> omega
theorem g_bd_f {bu d y : Int} {db ba bs bo fs : Int → Int} (h : g_bd bu db ba bs bo fs) : g_bd bu (st db d y) ba (st bs d (-2)) bo fs := fun r r0 r1 z => by
  by_cases q : r = d
  · rw [q, st_s]; exact Or.inl rfl
  · rw [st_n _ _ q] at z ⊢; exact h r r0 r1 z
theorem g_bd_n {bu n d : Int} {db ba bs bo bo2 fs : Int → Int} (h : g_bd bu db ba bs bo fs) (n0 : 0 ≤ n) (a0 : ∀ j, 0 ≤ ba j) (old : ∀ k : Int, 0 ≤ k → k < bu → bo2 k = bo k) (new : ∀ k : Int, bu ≤ k → k < bu + n → bo2 k < 1000 + fs d) : g_bd (bu + n) db (st ba d bu) (st bs d n) bo2 fs := fun r r0 r1 z => by
  by_cases q : r = d
  · rw [q, st_s, st_s]; exact Or.inr ⟨n0, Int.le_refl _, new⟩
  · rw [st_n _ _ q, st_n _ _ q]
    rcases h r r0 r1 z with w | ⟨w1, w2, w3⟩
    · exact Or.inl w
    · exact Or.inr ⟨w1, by omega, fun k k0 k1 => by rw [old k (by have := a0 r; omega) (by omega)]; exact w3 k k0 k1⟩
theorem c_DB_q {lb lb2 : Nat} {σ τ : S0} (h : c_DB lb σ) (w7 : τ.1 7 = σ.1 7) (w57 : τ.1 57 = σ.1 57) (w59 : τ.1 59 = σ.1 59) (w60 : τ.1 60 = σ.1 60) (g28 : τ.2.1 28 = σ.2.1 28) (g95 : τ.2.1 95 = σ.2.1 95) (g97 : ∀ k : Int, 0 ≤ k → k < σ.1 60 → τ.2.1 97 k = σ.2.1 97 k) (a0 : ∀ j, 0 ≤ σ.2.1 98 j) (g98 : τ.2.1 98 = σ.2.1 98) (g99 : τ.2.1 99 = σ.2.1 99) (l : lb ≤ lb2) : c_DB lb2 τ := by
  obtain ⟨h1, h2, h3, h4⟩ := h
  unfold c_DB
  rw [w7, w57, w59, w60, g28, g95, g98, g99]
  refine ⟨fun r r0 r1 z => ?_, by omega, h3, h4⟩
  rcases h1 r r0 r1 z with w | ⟨x1, x2, x3⟩
  · exact Or.inl w
  · exact Or.inr ⟨x1, x2, fun k k0 k1 => by rw [g97 k (by have := a0 r; omega) (by omega)]; exact x3 k k0 k1⟩
theorem c_DB_f {lb : Nat} {σ τ : S0} {d y : Int} (h : c_DB lb σ) (w7 : τ.1 7 = σ.1 7) (w57 : τ.1 57 = σ.1 57) (w59 : τ.1 59 = σ.1 59) (w60 : τ.1 60 = σ.1 60) (g28 : τ.2.1 28 = σ.2.1 28) (e95 : τ.2.1 95 = st (σ.2.1 95) d y) (g97 : τ.2.1 97 = σ.2.1 97) (g98 : τ.2.1 98 = σ.2.1 98) (e99 : τ.2.1 99 = st (σ.2.1 99) d (-2)) (d1 : d < σ.1 7) : c_DB lb τ := by
  obtain ⟨h1, h2, h3, h4⟩ := h
  unfold c_DB
  rw [w7, w57, w59, w60, g28, e95, g97, g98, e99]
  refine ⟨g_bd_f h1, h2, h3, fun r r0 r1 z => ?_⟩
  by_cases q : r = d
  · omega
  · rw [st_n _ _ q] at z; exact h4 r r0 r1 z
theorem c_DB_n {lb : Nat} {σ τ : S0} {d n : Int} (h : c_DB lb σ) (w7 : τ.1 7 = σ.1 7) (w57 : τ.1 57 = σ.1 57) (w59 : τ.1 59 = σ.1 59) (w60 : τ.1 60 = σ.1 60 + n) (g28 : τ.2.1 28 = σ.2.1 28) (g95 : τ.2.1 95 = σ.2.1 95) (old : ∀ k : Int, 0 ≤ k → k < σ.1 60 → τ.2.1 97 k = σ.2.1 97 k) (new : ∀ k : Int, σ.1 60 ≤ k → k < σ.1 60 + n → τ.2.1 97 k < 1000 + σ.2.1 28 d) (e98 : τ.2.1 98 = st (σ.2.1 98) d (σ.1 60)) (e99 : τ.2.1 99 = st (σ.2.1 99) d n) (n0 : 0 ≤ n) (a0 : ∀ j, 0 ≤ σ.2.1 98 j) (l : σ.1 60 + n ≤ (lb : Int)) : c_DB lb τ := by
  obtain ⟨h1, h2, h3, h4⟩ := h
  unfold c_DB
  rw [w7, w57, w59, w60, g28, g95, e98, e99]
  exact ⟨g_bd_n h1 n0 a0 old new, l, h3, h4⟩
theorem c_DS_q {In : Int → Prop} {σ τ : S0} (h : c_DS In σ) (w3 : τ.1 3 = σ.1 3) (w7 : τ.1 7 = σ.1 7) (w57 : τ.1 57 = σ.1 57) (g : ∀ k, k ∈ [2, 3, 4, 8, 10, 13, 14, 15, 16, 27, 28, 29] → τ.2.1 k = σ.2.1 k) (g93 : τ.2.1 93 = σ.2.1 93) (g94 : τ.2.1 94 = σ.2.1 94) (z : ∀ v, τ.2.1 100 v = 0) : c_DS In τ := by
  obtain ⟨h1, h2, h3⟩ := h
  unfold c_DS
  rw [w7, w57, g93, g94]
  exact ⟨z, fun i a b c => ⟨(h2 i a b c).1, (h2 i a b c).2.1, c_DT_e (h2 i a b c).2.2 w3 w7 g⟩, h3⟩
theorem L2_e {σ τ : S0} (w : τ.1 200 = σ.1 200) : L2 τ = L2 σ := by unfold L2; rw [w]
theorem L2_i {σ : S0} (w : 16384 ≤ σ.1 200) : ((L2 σ : Nat) : Int) = σ.1 200 := by unfold L2; omega
theorem c_gr_o {lb : Nat} {f : Int → Int} {k : Int} (h0 : 0 ≤ k) (h1 : k < (lb : Int)) : c_gr lb f k = f k := by
  unfold c_gr c_py
  rw [if_pos (by omega), show 0 + (k - 0) = k from by omega]
theorem cpy_o {f h : Int → Int} {sp dp n k : Int} (l : k < dp) : c_py f h sp dp n k = h k := by
  unfold c_py
  rw [if_neg (by omega)]
theorem cpy_i {f h : Int → Int} {sp dp n k : Int} (l : dp ≤ k) (m : k < dp + n) : c_py f h sp dp n k = f (sp + (k - dp)) := by
  unfold c_py
  rw [if_pos (by omega)]
set_option maxHeartbeats 8000000 in
theorem K_X2_makeBody {n1 : Int} {n2 : Int} {par nof : Int → Int} {In : Int → Prop} {σ : S0} (hT : c_T σ) (p1 : 0 ≤ n1) (p2 : n1 < (σ.1 7)) (p3 : J_all (σ.1 7) (σ.1 6) (σ.1 13) (σ.1 14) (σ.1 15) (σ.2.1 13) (σ.2.1 14) (σ.2.1 15) (σ.2.1 16) (σ.2.1 10) (σ.2.1 27) (σ.2.1 28) (σ.2.1 29) (σ.2.1 30) (σ.2.1 31) (σ.2.1 32) (σ.2.1 33) (σ.2.1 34) (σ.2.1 35) (σ.2.1 36) (σ.2.1 37)) (p4 : J_rks (σ.1 5) (σ.1 4) (σ.2.1 10) (σ.2.1 11)) (p5 : J_vs (σ.1 6) (σ.1 5) (σ.2.1 15)) (p6 : c_Rs σ par nof In) (p7 : c_GR σ par nof In) (p8 : c_WZ σ) (p9 : c_DS In σ) (p10 : c_DB (L2 σ) σ) (p11 : g_pvf σ (σ.1 48)) (p12 : g_wf σ (σ.1 49)) (p13 : (σ.1 50) = σ.2.1 14 (n1 + 1) - σ.2.1 14 n1 - 1) (p14 : (σ.1 51) = n1) (p15 : ∀ k : Int, 0 ≤ k → k < (σ.1 50) → σ.2.1 77 k = σ.2.1 15 (σ.2.1 14 n1 + 1 + k) ∧ σ.2.1 78 k = σ.2.1 16 (σ.2.1 14 n1 + 1 + k)) (p16 : σ.2.1 15 (σ.2.1 14 n1) = (σ.1 48) → (σ.1 52) = -1 ∨ (¬ (σ.1 49) = -1 ∧ (σ.1 52) = σ.2.1 10 (σ.1 49))) (p17 : c_DT In σ n1 (n2 + 1)) (p18 : c_l7 (σ.1 200)) (p19 : (σ.1 60) ≤ 899000) (p20 : 0 ≤ n2 ∧ n2 < 1500) : W_X2_makeBody n1 n2 σ (fun (τ : S0) => (c_T τ) ∧ (c_Rs τ par nof In) ∧ (c_WZ τ) ∧ (c_DS In τ) ∧ (c_DB (L2 τ) τ) ∧ (c_l7 (τ.1 200)) ∧ ((τ.1 60) ≤ (σ.1 60) + 599)) := by
  have A2 : ∀ j, 0 ≤ σ.2.1 2 j ∧ σ.2.1 2 j ≤ 65535 := fun j => hT.2 2 j
  have A3 : ∀ j, 0 ≤ σ.2.1 3 j ∧ σ.2.1 3 j ≤ 30000 := fun j => hT.2 3 j
  have A4 : ∀ j, (-1000) ≤ σ.2.1 4 j ∧ σ.2.1 4 j ≤ 1499 := fun j => hT.2 4 j
  have A8 : ∀ j, 0 ≤ σ.2.1 8 j ∧ σ.2.1 8 j ≤ 1 := fun j => hT.2 8 j
  have A10 : ∀ j, (-1) ≤ σ.2.1 10 j ∧ σ.2.1 10 j ≤ 99 := fun j => hT.2 10 j
  have A11 : ∀ j, 0 ≤ σ.2.1 11 j ∧ σ.2.1 11 j ≤ 999 := fun j => hT.2 11 j
  have A13 : ∀ j, 0 ≤ σ.2.1 13 j ∧ σ.2.1 13 j ≤ 4 := fun j => hT.2 13 j
  have A14 : ∀ j, 0 ≤ σ.2.1 14 j ∧ σ.2.1 14 j ≤ 30000 := fun j => hT.2 14 j
  have A15 : ∀ j, 0 ≤ σ.2.1 15 j ∧ σ.2.1 15 j ≤ 999 := fun j => hT.2 15 j
  have A16 : ∀ j, (-1) ≤ σ.2.1 16 j ∧ σ.2.1 16 j ≤ 1499 := fun j => hT.2 16 j
  have A27 : ∀ j, 0 ≤ σ.2.1 27 j ∧ σ.2.1 27 j ≤ 90000 := fun j => hT.2 27 j
  have A28 : ∀ j, 0 ≤ σ.2.1 28 j ∧ σ.2.1 28 j ≤ 60 := fun j => hT.2 28 j
  have A29 : ∀ j, 0 ≤ σ.2.1 29 j ∧ σ.2.1 29 j ≤ 1499 := fun j => hT.2 29 j
  have A30 : ∀ j, 0 ≤ σ.2.1 30 j ∧ σ.2.1 30 j ≤ 20000 := fun j => hT.2 30 j
  have A31 : ∀ j, 0 ≤ σ.2.1 31 j ∧ σ.2.1 31 j ≤ 20000 := fun j => hT.2 31 j
  have A32 : ∀ j, 0 ≤ σ.2.1 32 j ∧ σ.2.1 32 j ≤ 999999 := fun j => hT.2 32 j
  have A33 : ∀ j, 0 ≤ σ.2.1 33 j ∧ σ.2.1 33 j ≤ 20000 := fun j => hT.2 33 j
  have A34 : ∀ j, 0 ≤ σ.2.1 34 j ∧ σ.2.1 34 j ≤ 20000 := fun j => hT.2 34 j
  have A35 : ∀ j, 0 ≤ σ.2.1 35 j ∧ σ.2.1 35 j ≤ 1499 := fun j => hT.2 35 j
  have A36 : ∀ j, 0 ≤ σ.2.1 36 j ∧ σ.2.1 36 j ≤ 20000 := fun j => hT.2 36 j
  have A37 : ∀ j, 0 ≤ σ.2.1 37 j ∧ σ.2.1 37 j ≤ 19999 := fun j => hT.2 37 j
  have A39 : ∀ j, 0 ≤ σ.2.1 39 j ∧ σ.2.1 39 j ≤ 1060 := fun j => hT.2 39 j
  have A40 : ∀ j, 0 ≤ σ.2.1 40 j ∧ σ.2.1 40 j ≤ 42000 := fun j => hT.2 40 j
  have A41 : ∀ j, (-2) ≤ σ.2.1 41 j ∧ σ.2.1 41 j ≤ 1000 := fun j => hT.2 41 j
  have A69 : ∀ j, (-100) ≤ σ.2.1 69 j ∧ σ.2.1 69 j ≤ 999 := fun j => hT.2 69 j
  have A70 : ∀ j, 0 ≤ σ.2.1 70 j ∧ σ.2.1 70 j ≤ 1499 := fun j => hT.2 70 j
  have A77 : ∀ j, 0 ≤ σ.2.1 77 j ∧ σ.2.1 77 j ≤ 999 := fun j => hT.2 77 j
  have A78 : ∀ j, (-1) ≤ σ.2.1 78 j ∧ σ.2.1 78 j ≤ 1499 := fun j => hT.2 78 j
  have A79 : ∀ j, 0 ≤ σ.2.1 79 j ∧ σ.2.1 79 j ≤ 1499 := fun j => hT.2 79 j
  have A84 : ∀ j, 0 ≤ σ.2.1 84 j ∧ σ.2.1 84 j ≤ 1499 := fun j => hT.2 84 j
  have A93 : ∀ j, 0 ≤ σ.2.1 93 j ∧ σ.2.1 93 j ≤ 1500 := fun j => hT.2 93 j
  have A94 : ∀ j, 0 ≤ σ.2.1 94 j ∧ σ.2.1 94 j ≤ 1500 := fun j => hT.2 94 j
  have A95 : ∀ j, 0 ≤ σ.2.1 95 j ∧ σ.2.1 95 j ≤ 1500 := fun j => hT.2 95 j
  have A97 : ∀ j, 0 ≤ σ.2.1 97 j ∧ σ.2.1 97 j ≤ 1060 := fun j => hT.2 97 j
  have A98 : ∀ j, 0 ≤ σ.2.1 98 j ∧ σ.2.1 98 j ≤ 1048576 := fun j => hT.2 98 j
  have A99 : ∀ j, (-2) ≤ σ.2.1 99 j ∧ σ.2.1 99 j ≤ 600 := fun j => hT.2 99 j
  have A100 : ∀ j, 0 ≤ σ.2.1 100 j ∧ σ.2.1 100 j ≤ 1060 := fun j => hT.2 100 j
  have v3 : 0 ≤ σ.1 3 ∧ σ.1 3 ≤ 2500 := hT.1 3
  have v4 : 0 ≤ σ.1 4 ∧ σ.1 4 ≤ 100 := hT.1 4
  have v5 : 0 ≤ σ.1 5 ∧ σ.1 5 ≤ 1000 := hT.1 5
  have v6 : 0 ≤ σ.1 6 ∧ σ.1 6 ≤ 30000 := hT.1 6
  have v7 : 0 ≤ σ.1 7 ∧ σ.1 7 ≤ 1500 := hT.1 7
  have v13 : 0 ≤ σ.1 13 ∧ σ.1 13 ≤ 90000 := hT.1 13
  have v14 : 0 ≤ σ.1 14 ∧ σ.1 14 ≤ 20000 := hT.1 14
  have v15 : 0 ≤ σ.1 15 ∧ σ.1 15 ≤ 20000 := hT.1 15
  have v17 : 0 ≤ σ.1 17 ∧ σ.1 17 ≤ 42000 := hT.1 17
  have v45 : 1 ≤ σ.1 45 ∧ σ.1 45 ≤ 30001 := hT.1 45
  have v48 : (-1) ≤ σ.1 48 ∧ σ.1 48 ≤ 999 := hT.1 48
  have v49 : (-1) ≤ σ.1 49 ∧ σ.1 49 ≤ 999 := hT.1 49
  have v50 : 0 ≤ σ.1 50 ∧ σ.1 50 ≤ 59 := hT.1 50
  have v51 : 0 ≤ σ.1 51 ∧ σ.1 51 ≤ 1500 := hT.1 51
  have v52 : (-1) ≤ σ.1 52 ∧ σ.1 52 ≤ 99 := hT.1 52
  have v54 : 0 ≤ σ.1 54 ∧ σ.1 54 ≤ 12000 := hT.1 54
  have v57 : 0 ≤ σ.1 57 ∧ σ.1 57 ≤ 1500 := hT.1 57
  have v59 : 0 ≤ σ.1 59 ∧ σ.1 59 ≤ 1500 := hT.1 59
  have v60 : 0 ≤ σ.1 60 ∧ σ.1 60 ≤ 1048576 := hT.1 60
  have v61 : 0 ≤ σ.1 61 ∧ σ.1 61 ≤ 12000 := hT.1 61
  have v62 : 0 ≤ σ.1 62 ∧ σ.1 62 ≤ 12000 := hT.1 62
  have v200 : 16384 ≤ σ.1 200 ∧ σ.1 200 ≤ 1048576 := hT.1 200
  have a10_49 : (-1) ≤ σ.2.1 10 (σ.1 49) ∧ σ.2.1 10 (σ.1 49) ≤ 99 := hT.2 10 _
  have W3 : σ.1 3 = σ.1 3 := rfl
  have W4 : σ.1 4 = σ.1 4 := rfl
  have W5 : σ.1 5 = σ.1 5 := rfl
  have W6 : σ.1 6 = σ.1 6 := rfl
  have W7 : σ.1 7 = σ.1 7 := rfl
  have W13 : σ.1 13 = σ.1 13 := rfl
  have W14 : σ.1 14 = σ.1 14 := rfl
  have W15 : σ.1 15 = σ.1 15 := rfl
  have W45 : σ.1 45 = σ.1 45 := rfl
  have W48 : σ.1 48 = σ.1 48 := rfl
  have W49 : σ.1 49 = σ.1 49 := rfl
  have W50 : σ.1 50 = σ.1 50 := rfl
  have W51 : σ.1 51 = σ.1 51 := rfl
  have W52 : σ.1 52 = σ.1 52 := rfl
  have W57 : σ.1 57 = σ.1 57 := rfl
  have W59 : σ.1 59 = σ.1 59 := rfl
  have G2 : σ.2.1 2 = σ.2.1 2 := rfl
  have G3 : σ.2.1 3 = σ.2.1 3 := rfl
  have G4 : σ.2.1 4 = σ.2.1 4 := rfl
  have G8 : σ.2.1 8 = σ.2.1 8 := rfl
  have G10 : σ.2.1 10 = σ.2.1 10 := rfl
  have G11 : σ.2.1 11 = σ.2.1 11 := rfl
  have G13 : σ.2.1 13 = σ.2.1 13 := rfl
  have G14 : σ.2.1 14 = σ.2.1 14 := rfl
  have G15 : σ.2.1 15 = σ.2.1 15 := rfl
  have G16 : σ.2.1 16 = σ.2.1 16 := rfl
  have G27 : σ.2.1 27 = σ.2.1 27 := rfl
  have G28 : σ.2.1 28 = σ.2.1 28 := rfl
  have G29 : σ.2.1 29 = σ.2.1 29 := rfl
  have G30 : σ.2.1 30 = σ.2.1 30 := rfl
  have G31 : σ.2.1 31 = σ.2.1 31 := rfl
  have G32 : σ.2.1 32 = σ.2.1 32 := rfl
  have G33 : σ.2.1 33 = σ.2.1 33 := rfl
  have G34 : σ.2.1 34 = σ.2.1 34 := rfl
  have G35 : σ.2.1 35 = σ.2.1 35 := rfl
  have G36 : σ.2.1 36 = σ.2.1 36 := rfl
  have G37 : σ.2.1 37 = σ.2.1 37 := rfl
  have G69 : σ.2.1 69 = σ.2.1 69 := rfl
  have G70 : σ.2.1 70 = σ.2.1 70 := rfl
  have G77 : σ.2.1 77 = σ.2.1 77 := rfl
  have G78 : σ.2.1 78 = σ.2.1 78 := rfl
  have G79 : σ.2.1 79 = σ.2.1 79 := rfl
  have G93 : σ.2.1 93 = σ.2.1 93 := rfl
  have G94 : σ.2.1 94 = σ.2.1 94 := rfl
  refine ⟨v200, ?_⟩
  intro P0 P115 h0 h115
  have hT0 := hT
  have TX : J_vs (σ.1 6) (σ.1 5) (σ.2.1 15) := p5
  have RKS : J_rks (σ.1 5) (σ.1 4) (σ.2.1 10) (σ.2.1 11) := p4
  have CJ : J_all (σ.1 7) (σ.1 6) (σ.1 13) (σ.1 14) (σ.1 15) (σ.2.1 13) (σ.2.1 14) (σ.2.1 15) (σ.2.1 16) (σ.2.1 10) (σ.2.1 27) (σ.2.1 28) (σ.2.1 29) (σ.2.1 30) (σ.2.1 31) (σ.2.1 32) (σ.2.1 33) (σ.2.1 34) (σ.2.1 35) (σ.2.1 36) (σ.2.1 37) := p3
  have CJ_0 := CJ
  have RKS_0 := RKS
  have TX_0 := TX
  have l_115 : ∀ (u2_115 : Int) (u4_115 : Int) (τ_115 : S0), (c_T τ_115) → (τ_115.1 3 = σ.1 3) → (τ_115.1 4 = σ.1 4) → (τ_115.1 5 = σ.1 5) → (τ_115.1 6 = σ.1 6) → (τ_115.1 7 = σ.1 7) → (τ_115.1 13 = σ.1 13) → (τ_115.1 14 = σ.1 14) → (τ_115.1 15 = σ.1 15) → (τ_115.1 45 = σ.1 45) → (τ_115.1 48 = σ.1 48) → (τ_115.1 49 = σ.1 49) → (τ_115.1 50 = σ.1 50) → (τ_115.1 51 = σ.1 51) → (τ_115.1 52 = σ.1 52) → (τ_115.1 57 = σ.1 57) → (τ_115.1 59 = σ.1 59) → (τ_115.2.1 2 = σ.2.1 2) → (τ_115.2.1 3 = σ.2.1 3) → (τ_115.2.1 4 = σ.2.1 4) → (τ_115.2.1 8 = σ.2.1 8) → (τ_115.2.1 10 = σ.2.1 10) → (τ_115.2.1 11 = σ.2.1 11) → (τ_115.2.1 13 = σ.2.1 13) → (τ_115.2.1 14 = σ.2.1 14) → (τ_115.2.1 15 = σ.2.1 15) → (τ_115.2.1 16 = σ.2.1 16) → (τ_115.2.1 27 = σ.2.1 27) → (τ_115.2.1 28 = σ.2.1 28) → (τ_115.2.1 29 = σ.2.1 29) → (τ_115.2.1 30 = σ.2.1 30) → (τ_115.2.1 31 = σ.2.1 31) → (τ_115.2.1 32 = σ.2.1 32) → (τ_115.2.1 33 = σ.2.1 33) → (τ_115.2.1 34 = σ.2.1 34) → (τ_115.2.1 35 = σ.2.1 35) → (τ_115.2.1 36 = σ.2.1 36) → (τ_115.2.1 37 = σ.2.1 37) → (τ_115.2.1 69 = σ.2.1 69) → (τ_115.2.1 70 = σ.2.1 70) → (τ_115.2.1 77 = σ.2.1 77) → (τ_115.2.1 78 = σ.2.1 78) → (τ_115.2.1 79 = σ.2.1 79) → (τ_115.2.1 93 = σ.2.1 93) → (τ_115.2.1 94 = σ.2.1 94) → (0 ≤ u2_115 ∧ u2_115 < (σ.1 7)) → (0 ≤ u4_115 ∧ u4_115 ≤ 599) → ((σ.1 60) + u4_115 ≤ τ_115.1 200) → ((τ_115.1 60) = (σ.1 60)) → (c_DB (L2 τ_115) τ_115) → (c_DS In τ_115) → (0 ≤ τ_115.2.1 40 0 ∧ τ_115.2.1 40 0 + u4_115 ≤ 42000) → (∀ j : Int, τ_115.2.1 40 0 ≤ j → j < τ_115.2.1 40 0 + u4_115 → τ_115.2.1 39 j < 1000 + σ.2.1 28 u2_115) → (c_Rs τ_115 par nof In) → (c_WZ τ_115) → (c_l7 (τ_115.1 200)) → P115 u2_115 u4_115 τ_115 := by
    intro u2_115 u4_115 τ_115 hT W3 W4 W5 W6 W7 W13 W14 W15 W45 W48 W49 W50 W51 W52 W57 W59 G2 G3 G4 G8 G10 G11 G13 G14 G15 G16 G27 G28 G29 G30 G31 G32 G33 G34 G35 G36 G37 G69 G70 G77 G78 G79 G93 G94 i115_1 i115_2 i115_3 i115_4 i115_5 i115_6 i115_7 i115_8 i115_9 i115_10 i115_11
    have A2 : ∀ j, 0 ≤ τ_115.2.1 2 j ∧ τ_115.2.1 2 j ≤ 65535 := fun j => hT.2 2 j
    have A3 : ∀ j, 0 ≤ τ_115.2.1 3 j ∧ τ_115.2.1 3 j ≤ 30000 := fun j => hT.2 3 j
    have A4 : ∀ j, (-1000) ≤ τ_115.2.1 4 j ∧ τ_115.2.1 4 j ≤ 1499 := fun j => hT.2 4 j
    have A8 : ∀ j, 0 ≤ τ_115.2.1 8 j ∧ τ_115.2.1 8 j ≤ 1 := fun j => hT.2 8 j
    have A10 : ∀ j, (-1) ≤ τ_115.2.1 10 j ∧ τ_115.2.1 10 j ≤ 99 := fun j => hT.2 10 j
    have A11 : ∀ j, 0 ≤ τ_115.2.1 11 j ∧ τ_115.2.1 11 j ≤ 999 := fun j => hT.2 11 j
    have A13 : ∀ j, 0 ≤ τ_115.2.1 13 j ∧ τ_115.2.1 13 j ≤ 4 := fun j => hT.2 13 j
    have A14 : ∀ j, 0 ≤ τ_115.2.1 14 j ∧ τ_115.2.1 14 j ≤ 30000 := fun j => hT.2 14 j
    have A15 : ∀ j, 0 ≤ τ_115.2.1 15 j ∧ τ_115.2.1 15 j ≤ 999 := fun j => hT.2 15 j
    have A16 : ∀ j, (-1) ≤ τ_115.2.1 16 j ∧ τ_115.2.1 16 j ≤ 1499 := fun j => hT.2 16 j
    have A27 : ∀ j, 0 ≤ τ_115.2.1 27 j ∧ τ_115.2.1 27 j ≤ 90000 := fun j => hT.2 27 j
    have A28 : ∀ j, 0 ≤ τ_115.2.1 28 j ∧ τ_115.2.1 28 j ≤ 60 := fun j => hT.2 28 j
    have A29 : ∀ j, 0 ≤ τ_115.2.1 29 j ∧ τ_115.2.1 29 j ≤ 1499 := fun j => hT.2 29 j
    have A30 : ∀ j, 0 ≤ τ_115.2.1 30 j ∧ τ_115.2.1 30 j ≤ 20000 := fun j => hT.2 30 j
    have A31 : ∀ j, 0 ≤ τ_115.2.1 31 j ∧ τ_115.2.1 31 j ≤ 20000 := fun j => hT.2 31 j
    have A32 : ∀ j, 0 ≤ τ_115.2.1 32 j ∧ τ_115.2.1 32 j ≤ 999999 := fun j => hT.2 32 j
    have A33 : ∀ j, 0 ≤ τ_115.2.1 33 j ∧ τ_115.2.1 33 j ≤ 20000 := fun j => hT.2 33 j
    have A34 : ∀ j, 0 ≤ τ_115.2.1 34 j ∧ τ_115.2.1 34 j ≤ 20000 := fun j => hT.2 34 j
    have A35 : ∀ j, 0 ≤ τ_115.2.1 35 j ∧ τ_115.2.1 35 j ≤ 1499 := fun j => hT.2 35 j
    have A36 : ∀ j, 0 ≤ τ_115.2.1 36 j ∧ τ_115.2.1 36 j ≤ 20000 := fun j => hT.2 36 j
    have A37 : ∀ j, 0 ≤ τ_115.2.1 37 j ∧ τ_115.2.1 37 j ≤ 19999 := fun j => hT.2 37 j
    have A39 : ∀ j, 0 ≤ τ_115.2.1 39 j ∧ τ_115.2.1 39 j ≤ 1060 := fun j => hT.2 39 j
    have A40 : ∀ j, 0 ≤ τ_115.2.1 40 j ∧ τ_115.2.1 40 j ≤ 42000 := fun j => hT.2 40 j
    have A41 : ∀ j, (-2) ≤ τ_115.2.1 41 j ∧ τ_115.2.1 41 j ≤ 1000 := fun j => hT.2 41 j
    have A69 : ∀ j, (-100) ≤ τ_115.2.1 69 j ∧ τ_115.2.1 69 j ≤ 999 := fun j => hT.2 69 j
    have A70 : ∀ j, 0 ≤ τ_115.2.1 70 j ∧ τ_115.2.1 70 j ≤ 1499 := fun j => hT.2 70 j
    have A77 : ∀ j, 0 ≤ τ_115.2.1 77 j ∧ τ_115.2.1 77 j ≤ 999 := fun j => hT.2 77 j
    have A78 : ∀ j, (-1) ≤ τ_115.2.1 78 j ∧ τ_115.2.1 78 j ≤ 1499 := fun j => hT.2 78 j
    have A79 : ∀ j, 0 ≤ τ_115.2.1 79 j ∧ τ_115.2.1 79 j ≤ 1499 := fun j => hT.2 79 j
    have A84 : ∀ j, 0 ≤ τ_115.2.1 84 j ∧ τ_115.2.1 84 j ≤ 1499 := fun j => hT.2 84 j
    have A93 : ∀ j, 0 ≤ τ_115.2.1 93 j ∧ τ_115.2.1 93 j ≤ 1500 := fun j => hT.2 93 j
    have A94 : ∀ j, 0 ≤ τ_115.2.1 94 j ∧ τ_115.2.1 94 j ≤ 1500 := fun j => hT.2 94 j
    have A95 : ∀ j, 0 ≤ τ_115.2.1 95 j ∧ τ_115.2.1 95 j ≤ 1500 := fun j => hT.2 95 j
    have A97 : ∀ j, 0 ≤ τ_115.2.1 97 j ∧ τ_115.2.1 97 j ≤ 1060 := fun j => hT.2 97 j
    have A98 : ∀ j, 0 ≤ τ_115.2.1 98 j ∧ τ_115.2.1 98 j ≤ 1048576 := fun j => hT.2 98 j
    have A99 : ∀ j, (-2) ≤ τ_115.2.1 99 j ∧ τ_115.2.1 99 j ≤ 600 := fun j => hT.2 99 j
    have A100 : ∀ j, 0 ≤ τ_115.2.1 100 j ∧ τ_115.2.1 100 j ≤ 1060 := fun j => hT.2 100 j
    have v3 : 0 ≤ τ_115.1 3 ∧ τ_115.1 3 ≤ 2500 := hT.1 3
    have v4 : 0 ≤ τ_115.1 4 ∧ τ_115.1 4 ≤ 100 := hT.1 4
    have v5 : 0 ≤ τ_115.1 5 ∧ τ_115.1 5 ≤ 1000 := hT.1 5
    have v6 : 0 ≤ τ_115.1 6 ∧ τ_115.1 6 ≤ 30000 := hT.1 6
    have v7 : 0 ≤ τ_115.1 7 ∧ τ_115.1 7 ≤ 1500 := hT.1 7
    have v13 : 0 ≤ τ_115.1 13 ∧ τ_115.1 13 ≤ 90000 := hT.1 13
    have v14 : 0 ≤ τ_115.1 14 ∧ τ_115.1 14 ≤ 20000 := hT.1 14
    have v15 : 0 ≤ τ_115.1 15 ∧ τ_115.1 15 ≤ 20000 := hT.1 15
    have v17 : 0 ≤ τ_115.1 17 ∧ τ_115.1 17 ≤ 42000 := hT.1 17
    have v45 : 1 ≤ τ_115.1 45 ∧ τ_115.1 45 ≤ 30001 := hT.1 45
    have v48 : (-1) ≤ τ_115.1 48 ∧ τ_115.1 48 ≤ 999 := hT.1 48
    have v49 : (-1) ≤ τ_115.1 49 ∧ τ_115.1 49 ≤ 999 := hT.1 49
    have v50 : 0 ≤ τ_115.1 50 ∧ τ_115.1 50 ≤ 59 := hT.1 50
    have v51 : 0 ≤ τ_115.1 51 ∧ τ_115.1 51 ≤ 1500 := hT.1 51
    have v52 : (-1) ≤ τ_115.1 52 ∧ τ_115.1 52 ≤ 99 := hT.1 52
    have v54 : 0 ≤ τ_115.1 54 ∧ τ_115.1 54 ≤ 12000 := hT.1 54
    have v57 : 0 ≤ τ_115.1 57 ∧ τ_115.1 57 ≤ 1500 := hT.1 57
    have v59 : 0 ≤ τ_115.1 59 ∧ τ_115.1 59 ≤ 1500 := hT.1 59
    have v60 : 0 ≤ τ_115.1 60 ∧ τ_115.1 60 ≤ 1048576 := hT.1 60
    have v61 : 0 ≤ τ_115.1 61 ∧ τ_115.1 61 ≤ 12000 := hT.1 61
    have v62 : 0 ≤ τ_115.1 62 ∧ τ_115.1 62 ≤ 12000 := hT.1 62
    have v200 : 16384 ≤ τ_115.1 200 ∧ τ_115.1 200 ≤ 1048576 := hT.1 200
    have a10_49 : (-1) ≤ τ_115.2.1 10 (τ_115.1 49) ∧ τ_115.2.1 10 (τ_115.1 49) ≤ 99 := hT.2 10 _
    have y10_49_τ_115 : τ_115.2.1 10 (τ_115.1 49) = σ.2.1 10 (σ.1 49) := by rw [G10, W49]
    have TX : J_vs (τ_115.1 6) (τ_115.1 5) (τ_115.2.1 15) := by rw [show (J_vs (τ_115.1 6) (τ_115.1 5) (τ_115.2.1 15)) = (J_vs (σ.1 6) (σ.1 5) (σ.2.1 15)) from by rw [W5, W6, G15]]; exact TX_0
    have RKS : J_rks (τ_115.1 5) (τ_115.1 4) (τ_115.2.1 10) (τ_115.2.1 11) := by rw [show (J_rks (τ_115.1 5) (τ_115.1 4) (τ_115.2.1 10) (τ_115.2.1 11)) = (J_rks (σ.1 5) (σ.1 4) (σ.2.1 10) (σ.2.1 11)) from by rw [W4, W5, G10, G11]]; exact RKS_0
    have CJ : J_all (τ_115.1 7) (τ_115.1 6) (τ_115.1 13) (τ_115.1 14) (τ_115.1 15) (τ_115.2.1 13) (τ_115.2.1 14) (τ_115.2.1 15) (τ_115.2.1 16) (τ_115.2.1 10) (τ_115.2.1 27) (τ_115.2.1 28) (τ_115.2.1 29) (τ_115.2.1 30) (τ_115.2.1 31) (τ_115.2.1 32) (τ_115.2.1 33) (τ_115.2.1 34) (τ_115.2.1 35) (τ_115.2.1 36) (τ_115.2.1 37) := by rw [show (J_all (τ_115.1 7) (τ_115.1 6) (τ_115.1 13) (τ_115.1 14) (τ_115.1 15) (τ_115.2.1 13) (τ_115.2.1 14) (τ_115.2.1 15) (τ_115.2.1 16) (τ_115.2.1 10) (τ_115.2.1 27) (τ_115.2.1 28) (τ_115.2.1 29) (τ_115.2.1 30) (τ_115.2.1 31) (τ_115.2.1 32) (τ_115.2.1 33) (τ_115.2.1 34) (τ_115.2.1 35) (τ_115.2.1 36) (τ_115.2.1 37)) = (J_all (σ.1 7) (σ.1 6) (σ.1 13) (σ.1 14) (σ.1 15) (σ.2.1 13) (σ.2.1 14) (σ.2.1 15) (σ.2.1 16) (σ.2.1 10) (σ.2.1 27) (σ.2.1 28) (σ.2.1 29) (σ.2.1 30) (σ.2.1 31) (σ.2.1 32) (σ.2.1 33) (σ.2.1 34) (σ.2.1 35) (σ.2.1 36) (σ.2.1 37)) from by rw [W6, W7, W13, W14, W15, G10, G13, G14, G15, G16, G27, G28, G29, G30, G31, G32, G33, G34, G35, G36, G37]]; exact CJ_0
    refine h115 u2_115 u4_115 τ_115 ?_
    refine ⟨(show 0 ≤ u2_115 ∧ u2_115 < 1500 from by (first | omega | (simp only [st_s] <;> omega) | assumption | omega | fail)), ?_⟩
    replace hT := cT_a (k := 98) (j := u2_115) hT (show (0 : Int) ≤ (τ_115.1 60) ∧ (τ_115.1 60) ≤ 1048576 from by (first | omega | (simp only [st_s] <;> omega) | assumption | omega | fail))
    replace hT := cT_a (k := 99) (j := u2_115) hT (show (-2 : Int) ≤ u4_115 ∧ u4_115 ≤ 600 from by (first | omega | (simp only [st_s] <;> omega) | assumption | omega | fail))
    intro x29 r_x29 e_x29
    have b_x29 : 0 ≤ x29 ∧ x29 ≤ 42000 := by rw [e_x29]; exact hT.2 40 _
    refine ⟨(show (0 : Int) ≤ x29 ∧ (0 : Int) ≤ τ_115.1 60 ∧ (0 : Int) ≤ u4_115 ∧ x29 + u4_115 ≤ 42000 ∧ τ_115.1 60 + u4_115 ≤ τ_115.1 200 from by (first | omega | (simp only [st_s] <;> omega) | assumption | omega | fail)), ?_⟩
    replace hT := cT_f (k := 97) (f := (c_py (τ_115.2.1 39) (τ_115.2.1 97) x29 (τ_115.1 60) u4_115)) hT (by first | exact cpy_r (lo := fun _ => (0 : Int)) (hi := fun _ => (1060 : Int)) A39 A97 (fun _ => rfl) (fun _ => rfl) | exact cpy_r (lo := fun _ => (0 : Int)) (hi := fun _ => (1060 : Int)) A97 (fun _ => by decide) (fun _ => rfl) (fun _ => rfl))
    refine ⟨(⟨by (first | omega | (simp only [st_s] <;> omega) | assumption | omega | fail), by (first | omega | (simp only [st_s] <;> omega) | assumption | omega | fail)⟩ : rg (τ_115.1 60 + u4_115)), ?_⟩
    replace hT := cT_v (i := 60) hT (show 0 ≤ (τ_115.1 60 + u4_115) ∧ (τ_115.1 60 + u4_115) ≤ 1048576 from by (first | omega | (simp only [st_s] <;> omega) | assumption | omega | fail))
    exact ⟨hT, (show c_Rs (s_v (s_f (s_a (s_a τ_115 98 u2_115 (τ_115.1 60)) 99 u2_115 u4_115) 97 (c_py (τ_115.2.1 39) (τ_115.2.1 97) x29 (τ_115.1 60) u4_115)) 60 (τ_115.1 60 + u4_115)) par nof In from by (first | (exfalso; omega) | exact rs20 | exact i115_9 | fail)), (show c_WZ (s_v (s_f (s_a (s_a τ_115 98 u2_115 (τ_115.1 60)) 99 u2_115 u4_115) 97 (c_py (τ_115.2.1 39) (τ_115.2.1 97) x29 (τ_115.1 60) u4_115)) 60 (τ_115.1 60 + u4_115)) from by (first | (exfalso; omega) | exact wz20 | exact i115_10 | fail)), (show c_DS In (s_v (s_f (s_a (s_a τ_115 98 u2_115 (τ_115.1 60)) 99 u2_115 u4_115) 97 (c_py (τ_115.2.1 39) (τ_115.2.1 97) x29 (τ_115.1 60) u4_115)) 60 (τ_115.1 60 + u4_115)) from by (first | (exfalso; omega) | exact ds20 | exact i115_6 | fail)), (show c_DB (L2 (s_v (s_f (s_a (s_a τ_115 98 u2_115 (τ_115.1 60)) 99 u2_115 u4_115) 97 (c_py (τ_115.2.1 39) (τ_115.2.1 97) x29 (τ_115.1 60) u4_115)) 60 (τ_115.1 60 + u4_115))) (s_v (s_f (s_a (s_a τ_115 98 u2_115 (τ_115.1 60)) 99 u2_115 u4_115) 97 (c_py (τ_115.2.1 39) (τ_115.2.1 97) x29 (τ_115.1 60) u4_115)) 60 (τ_115.1 60 + u4_115)) from by (first | (exfalso; omega) | exact c_DB_f db20 rfl rfl rfl rfl rfl rfl rfl rfl rfl (by omega) | exact c_DB_n (d := u2_115) (n := u4_115) i115_5 rfl rfl rfl rfl rfl rfl (fun k k0 k1 => cpy_o (show k < τ_115.1 60 from k1)) (fun k k0 k1 => by rw [show (τ_115.2.1 28 : Int → Int) = σ.2.1 28 from G28]; have w := i115_8 (x29 + (k - τ_115.1 60)) (by omega) (by omega); rw [← cpy_i (f := τ_115.2.1 39) (h := τ_115.2.1 97) (sp := x29) (n := u4_115) k0 k1] at w; exact w) rfl rfl (by omega) (fun j => (A98 j).1) (by show τ_115.1 60 + u4_115 ≤ ((τ_115.1 200).toNat : Int); omega) | fail)), (show c_l7 (τ_115.1 200) from by (first | (exfalso; omega) | exact l720 | exact i115_11 | fail)), (show ((τ_115.1 60 + u4_115)) ≤ (σ.1 60) + 599 from by (first | omega | (simp only [st_s] <;> omega) | assumption | omega | fail))⟩
  refine h0 _ _ _ ?_
  refine ⟨_, K_X11_grow hT (show J_all (σ.1 7) (σ.1 6) (σ.1 13) (σ.1 14) (σ.1 15) (σ.2.1 13) (σ.2.1 14) (σ.2.1 15) (σ.2.1 16) (σ.2.1 10) (σ.2.1 27) (σ.2.1 28) (σ.2.1 29) (σ.2.1 30) (σ.2.1 31) (σ.2.1 32) (σ.2.1 33) (σ.2.1 34) (σ.2.1 35) (σ.2.1 36) (σ.2.1 37) from CJ) (show c_Rs σ par nof In from by exact p6) (show J_rks (σ.1 5) (σ.1 4) (σ.2.1 10) (σ.2.1 11) from RKS) (show J_vs (σ.1 6) (σ.1 5) (σ.2.1 15) from TX) (show ∀ i : Int, 0 ≤ i → i < (σ.1 50) → 0 ≤ σ.2.1 78 i → σ.2.1 78 i < (σ.1 7) ∧ σ.2.1 13 (σ.2.1 78 i) = 0 from by exact p7.1) (show ∀ i : Int, 0 ≤ i → i < (σ.1 50) → g_ok (σ.1 45) (σ.1 50) (σ.1 4) (σ.1 51) i (σ.2.1 77) (σ.2.1 69) par (σ.2.1 70) nof (g_so (σ.1 48) (σ.2.1 14) (σ.2.1 15) (σ.2.1 10)) (σ.2.1 78) In (σ.2.2 4) (σ.2.2 5) (σ.2.1 79) from by exact p7.2.1) (show 0 ≤ (σ.1 52) ∧ (σ.1 52) < (σ.1 4) from by exact p7.2.2.1) (show 0 < (σ.1 50) from by exact p7.2.2.2.1) (show g_H (σ.2.2 4) (σ.1 52) 0 (σ.1 50) ∧ ¬ g_H (σ.2.2 5) (σ.1 52) 0 (σ.1 50) from by exact p7.2.2.2.2.1) (show g_wu (σ.1 50) (σ.2.1 77) (σ.2.2 3) from by exact p7.2.2.2.2.2.1), ?_⟩
  intro τ3 hn_τ3 hf_τ3 hq
  obtain ⟨hT, q1_1, q1_2⟩ := hq
  replace q1_1 : g_tre (τ3.1 7) (τ3.1 54) (τ3.2.1 13) (τ3.2.1 14) (τ3.2.1 27) (τ3.2.1 28) (τ3.2.1 29) (τ3.2.1 84) := q1_1
  replace q1_2 : g_T (σ.1 50) (σ.1 51) (σ.1 48) (σ.2.1 77) (σ.2.1 78) (σ.2.1 13) (σ.2.1 14) (σ.2.1 15) (σ.2.1 16) (σ.2.1 10) (σ.2.1 27) (σ.2.1 28) (σ.2.1 29) In (σ.1 52) 0 (σ.1 50) (g_pre (τ3.2.1 84) ((τ3.1 54)).toNat) := q1_2
  have w3_τ3 : τ3.1 3 = σ.1 3 := hf_τ3.1 3 (by decide)
  have w4_τ3 : τ3.1 4 = σ.1 4 := hf_τ3.1 4 (by decide)
  have w5_τ3 : τ3.1 5 = σ.1 5 := hf_τ3.1 5 (by decide)
  have w6_τ3 : τ3.1 6 = σ.1 6 := hf_τ3.1 6 (by decide)
  have w7_τ3 : τ3.1 7 = σ.1 7 := hf_τ3.1 7 (by decide)
  have w13_τ3 : τ3.1 13 = σ.1 13 := hf_τ3.1 13 (by decide)
  have w14_τ3 : τ3.1 14 = σ.1 14 := hf_τ3.1 14 (by decide)
  have w15_τ3 : τ3.1 15 = σ.1 15 := hf_τ3.1 15 (by decide)
  have w17_τ3 : τ3.1 17 = σ.1 17 := hf_τ3.1 17 (by decide)
  have w45_τ3 : τ3.1 45 = σ.1 45 := hf_τ3.1 45 (by decide)
  have w48_τ3 : τ3.1 48 = σ.1 48 := hf_τ3.1 48 (by decide)
  have w49_τ3 : τ3.1 49 = σ.1 49 := hf_τ3.1 49 (by decide)
  have w50_τ3 : τ3.1 50 = σ.1 50 := hf_τ3.1 50 (by decide)
  have w51_τ3 : τ3.1 51 = σ.1 51 := hf_τ3.1 51 (by decide)
  have w52_τ3 : τ3.1 52 = σ.1 52 := hf_τ3.1 52 (by decide)
  have w57_τ3 : τ3.1 57 = σ.1 57 := hf_τ3.1 57 (by decide)
  have w59_τ3 : τ3.1 59 = σ.1 59 := hf_τ3.1 59 (by decide)
  have w60_τ3 : τ3.1 60 = σ.1 60 := hf_τ3.1 60 (by decide)
  have w61_τ3 : τ3.1 61 = σ.1 61 := hf_τ3.1 61 (by decide)
  have w62_τ3 : τ3.1 62 = σ.1 62 := hf_τ3.1 62 (by decide)
  have w200_τ3 : τ3.1 200 = σ.1 200 := hf_τ3.1 200 (by decide)
  have g2_τ3 : τ3.2.1 2 = σ.2.1 2 := hf_τ3.2.1 2 (by decide)
  have g3_τ3 : τ3.2.1 3 = σ.2.1 3 := hf_τ3.2.1 3 (by decide)
  have g4_τ3 : τ3.2.1 4 = σ.2.1 4 := hf_τ3.2.1 4 (by decide)
  have g8_τ3 : τ3.2.1 8 = σ.2.1 8 := hf_τ3.2.1 8 (by decide)
  have g10_τ3 : τ3.2.1 10 = σ.2.1 10 := hf_τ3.2.1 10 (by decide)
  have g11_τ3 : τ3.2.1 11 = σ.2.1 11 := hf_τ3.2.1 11 (by decide)
  have g13_τ3 : τ3.2.1 13 = σ.2.1 13 := hf_τ3.2.1 13 (by decide)
  have g14_τ3 : τ3.2.1 14 = σ.2.1 14 := hf_τ3.2.1 14 (by decide)
  have g15_τ3 : τ3.2.1 15 = σ.2.1 15 := hf_τ3.2.1 15 (by decide)
  have g16_τ3 : τ3.2.1 16 = σ.2.1 16 := hf_τ3.2.1 16 (by decide)
  have g27_τ3 : τ3.2.1 27 = σ.2.1 27 := hf_τ3.2.1 27 (by decide)
  have g28_τ3 : τ3.2.1 28 = σ.2.1 28 := hf_τ3.2.1 28 (by decide)
  have g29_τ3 : τ3.2.1 29 = σ.2.1 29 := hf_τ3.2.1 29 (by decide)
  have g30_τ3 : τ3.2.1 30 = σ.2.1 30 := hf_τ3.2.1 30 (by decide)
  have g31_τ3 : τ3.2.1 31 = σ.2.1 31 := hf_τ3.2.1 31 (by decide)
  have g32_τ3 : τ3.2.1 32 = σ.2.1 32 := hf_τ3.2.1 32 (by decide)
  have g33_τ3 : τ3.2.1 33 = σ.2.1 33 := hf_τ3.2.1 33 (by decide)
  have g34_τ3 : τ3.2.1 34 = σ.2.1 34 := hf_τ3.2.1 34 (by decide)
  have g35_τ3 : τ3.2.1 35 = σ.2.1 35 := hf_τ3.2.1 35 (by decide)
  have g36_τ3 : τ3.2.1 36 = σ.2.1 36 := hf_τ3.2.1 36 (by decide)
  have g37_τ3 : τ3.2.1 37 = σ.2.1 37 := hf_τ3.2.1 37 (by decide)
  have g39_τ3 : τ3.2.1 39 = σ.2.1 39 := hf_τ3.2.1 39 (by decide)
  have g40_τ3 : τ3.2.1 40 = σ.2.1 40 := hf_τ3.2.1 40 (by decide)
  have g41_τ3 : τ3.2.1 41 = σ.2.1 41 := hf_τ3.2.1 41 (by decide)
  have g69_τ3 : τ3.2.1 69 = σ.2.1 69 := hf_τ3.2.1 69 (by decide)
  have g70_τ3 : τ3.2.1 70 = σ.2.1 70 := hf_τ3.2.1 70 (by decide)
  have g77_τ3 : τ3.2.1 77 = σ.2.1 77 := hf_τ3.2.1 77 (by decide)
  have g78_τ3 : τ3.2.1 78 = σ.2.1 78 := hf_τ3.2.1 78 (by decide)
  have g79_τ3 : τ3.2.1 79 = σ.2.1 79 := hf_τ3.2.1 79 (by decide)
  have g93_τ3 : τ3.2.1 93 = σ.2.1 93 := hf_τ3.2.1 93 (by decide)
  have g94_τ3 : τ3.2.1 94 = σ.2.1 94 := hf_τ3.2.1 94 (by decide)
  have g95_τ3 : τ3.2.1 95 = σ.2.1 95 := hf_τ3.2.1 95 (by decide)
  have g97_τ3 : τ3.2.1 97 = σ.2.1 97 := hf_τ3.2.1 97 (by decide)
  have g98_τ3 : τ3.2.1 98 = σ.2.1 98 := hf_τ3.2.1 98 (by decide)
  have g99_τ3 : τ3.2.1 99 = σ.2.1 99 := hf_τ3.2.1 99 (by decide)
  have g100_τ3 : τ3.2.1 100 = σ.2.1 100 := hf_τ3.2.1 100 (by decide)
  have W3 : τ3.1 3 = σ.1 3 := by first | exact w3_τ3.trans W3 | omega
  have W4 : τ3.1 4 = σ.1 4 := by first | exact w4_τ3.trans W4 | omega
  have W5 : τ3.1 5 = σ.1 5 := by first | exact w5_τ3.trans W5 | omega
  have W6 : τ3.1 6 = σ.1 6 := by first | exact w6_τ3.trans W6 | omega
  have W7 : τ3.1 7 = σ.1 7 := by first | exact w7_τ3.trans W7 | omega
  have W13 : τ3.1 13 = σ.1 13 := by first | exact w13_τ3.trans W13 | omega
  have W14 : τ3.1 14 = σ.1 14 := by first | exact w14_τ3.trans W14 | omega
  have W15 : τ3.1 15 = σ.1 15 := by first | exact w15_τ3.trans W15 | omega
  have W45 : τ3.1 45 = σ.1 45 := by first | exact w45_τ3.trans W45 | omega
  have W48 : τ3.1 48 = σ.1 48 := by first | exact w48_τ3.trans W48 | omega
  have W49 : τ3.1 49 = σ.1 49 := by first | exact w49_τ3.trans W49 | omega
  have W50 : τ3.1 50 = σ.1 50 := by first | exact w50_τ3.trans W50 | omega
  have W51 : τ3.1 51 = σ.1 51 := by first | exact w51_τ3.trans W51 | omega
  have W52 : τ3.1 52 = σ.1 52 := by first | exact w52_τ3.trans W52 | omega
  have W57 : τ3.1 57 = σ.1 57 := by first | exact w57_τ3.trans W57 | omega
  have W59 : τ3.1 59 = σ.1 59 := by first | exact w59_τ3.trans W59 | omega
  have G2 : τ3.2.1 2 = σ.2.1 2 := (g2_τ3).trans G2
  have G3 : τ3.2.1 3 = σ.2.1 3 := (g3_τ3).trans G3
  have G4 : τ3.2.1 4 = σ.2.1 4 := (g4_τ3).trans G4
  have G8 : τ3.2.1 8 = σ.2.1 8 := (g8_τ3).trans G8
  have G10 : τ3.2.1 10 = σ.2.1 10 := (g10_τ3).trans G10
  have G11 : τ3.2.1 11 = σ.2.1 11 := (g11_τ3).trans G11
  have G13 : τ3.2.1 13 = σ.2.1 13 := (g13_τ3).trans G13
  have G14 : τ3.2.1 14 = σ.2.1 14 := (g14_τ3).trans G14
  have G15 : τ3.2.1 15 = σ.2.1 15 := (g15_τ3).trans G15
  have G16 : τ3.2.1 16 = σ.2.1 16 := (g16_τ3).trans G16
  have G27 : τ3.2.1 27 = σ.2.1 27 := (g27_τ3).trans G27
  have G28 : τ3.2.1 28 = σ.2.1 28 := (g28_τ3).trans G28
  have G29 : τ3.2.1 29 = σ.2.1 29 := (g29_τ3).trans G29
  have G30 : τ3.2.1 30 = σ.2.1 30 := (g30_τ3).trans G30
  have G31 : τ3.2.1 31 = σ.2.1 31 := (g31_τ3).trans G31
  have G32 : τ3.2.1 32 = σ.2.1 32 := (g32_τ3).trans G32
  have G33 : τ3.2.1 33 = σ.2.1 33 := (g33_τ3).trans G33
  have G34 : τ3.2.1 34 = σ.2.1 34 := (g34_τ3).trans G34
  have G35 : τ3.2.1 35 = σ.2.1 35 := (g35_τ3).trans G35
  have G36 : τ3.2.1 36 = σ.2.1 36 := (g36_τ3).trans G36
  have G37 : τ3.2.1 37 = σ.2.1 37 := (g37_τ3).trans G37
  have G69 : τ3.2.1 69 = σ.2.1 69 := (g69_τ3).trans G69
  have G70 : τ3.2.1 70 = σ.2.1 70 := (g70_τ3).trans G70
  have G77 : τ3.2.1 77 = σ.2.1 77 := (g77_τ3).trans G77
  have G78 : τ3.2.1 78 = σ.2.1 78 := (g78_τ3).trans G78
  have G79 : τ3.2.1 79 = σ.2.1 79 := (g79_τ3).trans G79
  have G93 : τ3.2.1 93 = σ.2.1 93 := (g93_τ3).trans G93
  have G94 : τ3.2.1 94 = σ.2.1 94 := (g94_τ3).trans G94
  have y10_49_τ3 : τ3.2.1 10 (τ3.1 49) = (σ.2.1 10) (σ.1 49) := by rw [g10_τ3, w49_τ3]
  have TX : J_vs (τ3.1 6) (τ3.1 5) (τ3.2.1 15) := by rw [show (J_vs (τ3.1 6) (τ3.1 5) (τ3.2.1 15)) = (J_vs (σ.1 6) (σ.1 5) (σ.2.1 15)) from by rw [w5_τ3, w6_τ3, g15_τ3]]; exact TX
  have RKS : J_rks (τ3.1 5) (τ3.1 4) (τ3.2.1 10) (τ3.2.1 11) := by rw [show (J_rks (τ3.1 5) (τ3.1 4) (τ3.2.1 10) (τ3.2.1 11)) = (J_rks (σ.1 5) (σ.1 4) (σ.2.1 10) (σ.2.1 11)) from by rw [w4_τ3, w5_τ3, g10_τ3, g11_τ3]]; exact RKS
  have CJ : J_all (τ3.1 7) (τ3.1 6) (τ3.1 13) (τ3.1 14) (τ3.1 15) (τ3.2.1 13) (τ3.2.1 14) (τ3.2.1 15) (τ3.2.1 16) (τ3.2.1 10) (τ3.2.1 27) (τ3.2.1 28) (τ3.2.1 29) (τ3.2.1 30) (τ3.2.1 31) (τ3.2.1 32) (τ3.2.1 33) (τ3.2.1 34) (τ3.2.1 35) (τ3.2.1 36) (τ3.2.1 37) := by rw [show (J_all (τ3.1 7) (τ3.1 6) (τ3.1 13) (τ3.1 14) (τ3.1 15) (τ3.2.1 13) (τ3.2.1 14) (τ3.2.1 15) (τ3.2.1 16) (τ3.2.1 10) (τ3.2.1 27) (τ3.2.1 28) (τ3.2.1 29) (τ3.2.1 30) (τ3.2.1 31) (τ3.2.1 32) (τ3.2.1 33) (τ3.2.1 34) (τ3.2.1 35) (τ3.2.1 36) (τ3.2.1 37)) = (J_all (σ.1 7) (σ.1 6) (σ.1 13) (σ.1 14) (σ.1 15) (σ.2.1 13) (σ.2.1 14) (σ.2.1 15) (σ.2.1 16) (σ.2.1 10) (σ.2.1 27) (σ.2.1 28) (σ.2.1 29) (σ.2.1 30) (σ.2.1 31) (σ.2.1 32) (σ.2.1 33) (σ.2.1 34) (σ.2.1 35) (σ.2.1 36) (σ.2.1 37)) from by rw [w6_τ3, w7_τ3, w13_τ3, w14_τ3, w15_τ3, g10_τ3, g13_τ3, g14_τ3, g15_τ3, g16_τ3, g27_τ3, g28_τ3, g29_τ3, g30_τ3, g31_τ3, g32_τ3, g33_τ3, g34_τ3, g35_τ3, g36_τ3, g37_τ3]]; exact CJ
  have TRE : g_tre (τ3.1 7) (τ3.1 54) (τ3.2.1 13) (τ3.2.1 14) (τ3.2.1 27) (τ3.2.1 28) (τ3.2.1 29) (τ3.2.1 84) := q1_1
  have A2 : ∀ j, 0 ≤ τ3.2.1 2 j ∧ τ3.2.1 2 j ≤ 65535 := fun j => hT.2 2 j
  have A3 : ∀ j, 0 ≤ τ3.2.1 3 j ∧ τ3.2.1 3 j ≤ 30000 := fun j => hT.2 3 j
  have A4 : ∀ j, (-1000) ≤ τ3.2.1 4 j ∧ τ3.2.1 4 j ≤ 1499 := fun j => hT.2 4 j
  have A8 : ∀ j, 0 ≤ τ3.2.1 8 j ∧ τ3.2.1 8 j ≤ 1 := fun j => hT.2 8 j
  have A10 : ∀ j, (-1) ≤ τ3.2.1 10 j ∧ τ3.2.1 10 j ≤ 99 := fun j => hT.2 10 j
  have A11 : ∀ j, 0 ≤ τ3.2.1 11 j ∧ τ3.2.1 11 j ≤ 999 := fun j => hT.2 11 j
  have A13 : ∀ j, 0 ≤ τ3.2.1 13 j ∧ τ3.2.1 13 j ≤ 4 := fun j => hT.2 13 j
  have A14 : ∀ j, 0 ≤ τ3.2.1 14 j ∧ τ3.2.1 14 j ≤ 30000 := fun j => hT.2 14 j
  have A15 : ∀ j, 0 ≤ τ3.2.1 15 j ∧ τ3.2.1 15 j ≤ 999 := fun j => hT.2 15 j
  have A16 : ∀ j, (-1) ≤ τ3.2.1 16 j ∧ τ3.2.1 16 j ≤ 1499 := fun j => hT.2 16 j
  have A27 : ∀ j, 0 ≤ τ3.2.1 27 j ∧ τ3.2.1 27 j ≤ 90000 := fun j => hT.2 27 j
  have A28 : ∀ j, 0 ≤ τ3.2.1 28 j ∧ τ3.2.1 28 j ≤ 60 := fun j => hT.2 28 j
  have A29 : ∀ j, 0 ≤ τ3.2.1 29 j ∧ τ3.2.1 29 j ≤ 1499 := fun j => hT.2 29 j
  have A30 : ∀ j, 0 ≤ τ3.2.1 30 j ∧ τ3.2.1 30 j ≤ 20000 := fun j => hT.2 30 j
  have A31 : ∀ j, 0 ≤ τ3.2.1 31 j ∧ τ3.2.1 31 j ≤ 20000 := fun j => hT.2 31 j
  have A32 : ∀ j, 0 ≤ τ3.2.1 32 j ∧ τ3.2.1 32 j ≤ 999999 := fun j => hT.2 32 j
  have A33 : ∀ j, 0 ≤ τ3.2.1 33 j ∧ τ3.2.1 33 j ≤ 20000 := fun j => hT.2 33 j
  have A34 : ∀ j, 0 ≤ τ3.2.1 34 j ∧ τ3.2.1 34 j ≤ 20000 := fun j => hT.2 34 j
  have A35 : ∀ j, 0 ≤ τ3.2.1 35 j ∧ τ3.2.1 35 j ≤ 1499 := fun j => hT.2 35 j
  have A36 : ∀ j, 0 ≤ τ3.2.1 36 j ∧ τ3.2.1 36 j ≤ 20000 := fun j => hT.2 36 j
  have A37 : ∀ j, 0 ≤ τ3.2.1 37 j ∧ τ3.2.1 37 j ≤ 19999 := fun j => hT.2 37 j
  have A39 : ∀ j, 0 ≤ τ3.2.1 39 j ∧ τ3.2.1 39 j ≤ 1060 := fun j => hT.2 39 j
  have A40 : ∀ j, 0 ≤ τ3.2.1 40 j ∧ τ3.2.1 40 j ≤ 42000 := fun j => hT.2 40 j
  have A41 : ∀ j, (-2) ≤ τ3.2.1 41 j ∧ τ3.2.1 41 j ≤ 1000 := fun j => hT.2 41 j
  have A69 : ∀ j, (-100) ≤ τ3.2.1 69 j ∧ τ3.2.1 69 j ≤ 999 := fun j => hT.2 69 j
  have A70 : ∀ j, 0 ≤ τ3.2.1 70 j ∧ τ3.2.1 70 j ≤ 1499 := fun j => hT.2 70 j
  have A77 : ∀ j, 0 ≤ τ3.2.1 77 j ∧ τ3.2.1 77 j ≤ 999 := fun j => hT.2 77 j
  have A78 : ∀ j, (-1) ≤ τ3.2.1 78 j ∧ τ3.2.1 78 j ≤ 1499 := fun j => hT.2 78 j
  have A79 : ∀ j, 0 ≤ τ3.2.1 79 j ∧ τ3.2.1 79 j ≤ 1499 := fun j => hT.2 79 j
  have A84 : ∀ j, 0 ≤ τ3.2.1 84 j ∧ τ3.2.1 84 j ≤ 1499 := fun j => hT.2 84 j
  have A93 : ∀ j, 0 ≤ τ3.2.1 93 j ∧ τ3.2.1 93 j ≤ 1500 := fun j => hT.2 93 j
  have A94 : ∀ j, 0 ≤ τ3.2.1 94 j ∧ τ3.2.1 94 j ≤ 1500 := fun j => hT.2 94 j
  have A95 : ∀ j, 0 ≤ τ3.2.1 95 j ∧ τ3.2.1 95 j ≤ 1500 := fun j => hT.2 95 j
  have A97 : ∀ j, 0 ≤ τ3.2.1 97 j ∧ τ3.2.1 97 j ≤ 1060 := fun j => hT.2 97 j
  have A98 : ∀ j, 0 ≤ τ3.2.1 98 j ∧ τ3.2.1 98 j ≤ 1048576 := fun j => hT.2 98 j
  have A99 : ∀ j, (-2) ≤ τ3.2.1 99 j ∧ τ3.2.1 99 j ≤ 600 := fun j => hT.2 99 j
  have A100 : ∀ j, 0 ≤ τ3.2.1 100 j ∧ τ3.2.1 100 j ≤ 1060 := fun j => hT.2 100 j
  have v3 : 0 ≤ τ3.1 3 ∧ τ3.1 3 ≤ 2500 := hT.1 3
  have v4 : 0 ≤ τ3.1 4 ∧ τ3.1 4 ≤ 100 := hT.1 4
  have v5 : 0 ≤ τ3.1 5 ∧ τ3.1 5 ≤ 1000 := hT.1 5
  have v6 : 0 ≤ τ3.1 6 ∧ τ3.1 6 ≤ 30000 := hT.1 6
  have v7 : 0 ≤ τ3.1 7 ∧ τ3.1 7 ≤ 1500 := hT.1 7
  have v13 : 0 ≤ τ3.1 13 ∧ τ3.1 13 ≤ 90000 := hT.1 13
  have v14 : 0 ≤ τ3.1 14 ∧ τ3.1 14 ≤ 20000 := hT.1 14
  have v15 : 0 ≤ τ3.1 15 ∧ τ3.1 15 ≤ 20000 := hT.1 15
  have v17 : 0 ≤ τ3.1 17 ∧ τ3.1 17 ≤ 42000 := hT.1 17
  have v45 : 1 ≤ τ3.1 45 ∧ τ3.1 45 ≤ 30001 := hT.1 45
  have v48 : (-1) ≤ τ3.1 48 ∧ τ3.1 48 ≤ 999 := hT.1 48
  have v49 : (-1) ≤ τ3.1 49 ∧ τ3.1 49 ≤ 999 := hT.1 49
  have v50 : 0 ≤ τ3.1 50 ∧ τ3.1 50 ≤ 59 := hT.1 50
  have v51 : 0 ≤ τ3.1 51 ∧ τ3.1 51 ≤ 1500 := hT.1 51
  have v52 : (-1) ≤ τ3.1 52 ∧ τ3.1 52 ≤ 99 := hT.1 52
  have v54 : 0 ≤ τ3.1 54 ∧ τ3.1 54 ≤ 12000 := hT.1 54
  have v57 : 0 ≤ τ3.1 57 ∧ τ3.1 57 ≤ 1500 := hT.1 57
  have v59 : 0 ≤ τ3.1 59 ∧ τ3.1 59 ≤ 1500 := hT.1 59
  have v60 : 0 ≤ τ3.1 60 ∧ τ3.1 60 ≤ 1048576 := hT.1 60
  have v61 : 0 ≤ τ3.1 61 ∧ τ3.1 61 ≤ 12000 := hT.1 61
  have v62 : 0 ≤ τ3.1 62 ∧ τ3.1 62 ≤ 12000 := hT.1 62
  have v200 : 16384 ≤ τ3.1 200 ∧ τ3.1 200 ≤ 1048576 := hT.1 200
  have a10_49 : (-1) ≤ τ3.2.1 10 (τ3.1 49) ∧ τ3.2.1 10 (τ3.1 49) ≤ 99 := hT.2 10 _
  have sz3 := q1_1.1
  obtain ⟨ft, f1, ⟨f2, f3⟩, f4, f5, f6⟩ := c_DT_u hT0 p3 p17 p6 p7 p11 p12 p13 p14 p15 p16 (by omega) q1_2
  have en2 : τ3.2.1 84 ft = n2 := by omega
  rw [en2] at f3 f5 f6
  have dn2 : n2 < σ.1 7 := by (have w := (q1_1.2.1 ft f2 (by have := (A28 n2).1; rw [G28] at this; omega)).1; rw [en2] at w; omega)
  have o13 := G13
  have o14 := G14
  have o15 := G15
  have o16 := G16
  have o27 := G27
  have o28 := G28
  have o29 := G29
  refine ⟨_, K_X2_partSides hT (show J_all (τ3.1 7) (τ3.1 6) (τ3.1 13) (τ3.1 14) (τ3.1 15) (τ3.2.1 13) (τ3.2.1 14) (τ3.2.1 15) (τ3.2.1 16) (τ3.2.1 10) (τ3.2.1 27) (τ3.2.1 28) (τ3.2.1 29) (τ3.2.1 30) (τ3.2.1 31) (τ3.2.1 32) (τ3.2.1 33) (τ3.2.1 34) (τ3.2.1 35) (τ3.2.1 36) (τ3.2.1 37) from CJ) (show g_tre (τ3.1 7) (τ3.1 54) (τ3.2.1 13) (τ3.2.1 14) (τ3.2.1 27) (τ3.2.1 28) (τ3.2.1 29) (τ3.2.1 84) from TRE), ?_⟩
  intro x5 τ6 r_x5 hn_τ6 hf_τ6 hq
  obtain ⟨hT, q4_1, q4_2, q4_3, q4_4⟩ := hq
  replace q4_1 : 0 ≤ x5 ∧ x5 ≤ 1 := q4_1
  replace q4_2 : ¬ x5 = 0 → (1 ≤ (τ6.1 61) ∧ (τ6.1 61) < (τ3.1 54)) ∧ 1 ≤ (τ6.1 62) ∧ (τ6.1 62) < (τ3.1 54) := q4_2
  replace q4_3 : ¬ x5 = 0 → g_pp (τ3.1 54) (τ6.1 61) (τ3.2.1 13) (τ3.2.1 14) (τ3.2.1 16) (τ3.2.1 27) (τ3.2.1 28) (τ3.2.1 29) (τ3.2.1 84) := q4_3
  replace q4_4 : x5 = 0 → ∀ y : Int, ¬ g_pp (τ3.1 54) y (τ3.2.1 13) (τ3.2.1 14) (τ3.2.1 16) (τ3.2.1 27) (τ3.2.1 28) (τ3.2.1 29) (τ3.2.1 84) := q4_4
  have w3_τ6 : τ6.1 3 = τ3.1 3 := hf_τ6.1 3 (by decide)
  have w4_τ6 : τ6.1 4 = τ3.1 4 := hf_τ6.1 4 (by decide)
  have w5_τ6 : τ6.1 5 = τ3.1 5 := hf_τ6.1 5 (by decide)
  have w6_τ6 : τ6.1 6 = τ3.1 6 := hf_τ6.1 6 (by decide)
  have w7_τ6 : τ6.1 7 = τ3.1 7 := hf_τ6.1 7 (by decide)
  have w13_τ6 : τ6.1 13 = τ3.1 13 := hf_τ6.1 13 (by decide)
  have w14_τ6 : τ6.1 14 = τ3.1 14 := hf_τ6.1 14 (by decide)
  have w15_τ6 : τ6.1 15 = τ3.1 15 := hf_τ6.1 15 (by decide)
  have w17_τ6 : τ6.1 17 = τ3.1 17 := hf_τ6.1 17 (by decide)
  have w45_τ6 : τ6.1 45 = τ3.1 45 := hf_τ6.1 45 (by decide)
  have w48_τ6 : τ6.1 48 = τ3.1 48 := hf_τ6.1 48 (by decide)
  have w49_τ6 : τ6.1 49 = τ3.1 49 := hf_τ6.1 49 (by decide)
  have w50_τ6 : τ6.1 50 = τ3.1 50 := hf_τ6.1 50 (by decide)
  have w51_τ6 : τ6.1 51 = τ3.1 51 := hf_τ6.1 51 (by decide)
  have w52_τ6 : τ6.1 52 = τ3.1 52 := hf_τ6.1 52 (by decide)
  have w54_τ6 : τ6.1 54 = τ3.1 54 := hf_τ6.1 54 (by decide)
  have w57_τ6 : τ6.1 57 = τ3.1 57 := hf_τ6.1 57 (by decide)
  have w59_τ6 : τ6.1 59 = τ3.1 59 := hf_τ6.1 59 (by decide)
  have w60_τ6 : τ6.1 60 = τ3.1 60 := hf_τ6.1 60 (by decide)
  have w200_τ6 : τ6.1 200 = τ3.1 200 := hf_τ6.1 200 (by decide)
  have g2_τ6 : τ6.2.1 2 = τ3.2.1 2 := hf_τ6.2.1 2 (by decide)
  have g3_τ6 : τ6.2.1 3 = τ3.2.1 3 := hf_τ6.2.1 3 (by decide)
  have g4_τ6 : τ6.2.1 4 = τ3.2.1 4 := hf_τ6.2.1 4 (by decide)
  have g8_τ6 : τ6.2.1 8 = τ3.2.1 8 := hf_τ6.2.1 8 (by decide)
  have g10_τ6 : τ6.2.1 10 = τ3.2.1 10 := hf_τ6.2.1 10 (by decide)
  have g11_τ6 : τ6.2.1 11 = τ3.2.1 11 := hf_τ6.2.1 11 (by decide)
  have g13_τ6 : τ6.2.1 13 = τ3.2.1 13 := hf_τ6.2.1 13 (by decide)
  have g14_τ6 : τ6.2.1 14 = τ3.2.1 14 := hf_τ6.2.1 14 (by decide)
  have g15_τ6 : τ6.2.1 15 = τ3.2.1 15 := hf_τ6.2.1 15 (by decide)
  have g16_τ6 : τ6.2.1 16 = τ3.2.1 16 := hf_τ6.2.1 16 (by decide)
  have g27_τ6 : τ6.2.1 27 = τ3.2.1 27 := hf_τ6.2.1 27 (by decide)
  have g28_τ6 : τ6.2.1 28 = τ3.2.1 28 := hf_τ6.2.1 28 (by decide)
  have g29_τ6 : τ6.2.1 29 = τ3.2.1 29 := hf_τ6.2.1 29 (by decide)
  have g30_τ6 : τ6.2.1 30 = τ3.2.1 30 := hf_τ6.2.1 30 (by decide)
  have g31_τ6 : τ6.2.1 31 = τ3.2.1 31 := hf_τ6.2.1 31 (by decide)
  have g32_τ6 : τ6.2.1 32 = τ3.2.1 32 := hf_τ6.2.1 32 (by decide)
  have g33_τ6 : τ6.2.1 33 = τ3.2.1 33 := hf_τ6.2.1 33 (by decide)
  have g34_τ6 : τ6.2.1 34 = τ3.2.1 34 := hf_τ6.2.1 34 (by decide)
  have g35_τ6 : τ6.2.1 35 = τ3.2.1 35 := hf_τ6.2.1 35 (by decide)
  have g36_τ6 : τ6.2.1 36 = τ3.2.1 36 := hf_τ6.2.1 36 (by decide)
  have g37_τ6 : τ6.2.1 37 = τ3.2.1 37 := hf_τ6.2.1 37 (by decide)
  have g39_τ6 : τ6.2.1 39 = τ3.2.1 39 := hf_τ6.2.1 39 (by decide)
  have g40_τ6 : τ6.2.1 40 = τ3.2.1 40 := hf_τ6.2.1 40 (by decide)
  have g41_τ6 : τ6.2.1 41 = τ3.2.1 41 := hf_τ6.2.1 41 (by decide)
  have g69_τ6 : τ6.2.1 69 = τ3.2.1 69 := hf_τ6.2.1 69 (by decide)
  have g70_τ6 : τ6.2.1 70 = τ3.2.1 70 := hf_τ6.2.1 70 (by decide)
  have g77_τ6 : τ6.2.1 77 = τ3.2.1 77 := hf_τ6.2.1 77 (by decide)
  have g78_τ6 : τ6.2.1 78 = τ3.2.1 78 := hf_τ6.2.1 78 (by decide)
  have g79_τ6 : τ6.2.1 79 = τ3.2.1 79 := hf_τ6.2.1 79 (by decide)
  have g84_τ6 : τ6.2.1 84 = τ3.2.1 84 := hf_τ6.2.1 84 (by decide)
  have g93_τ6 : τ6.2.1 93 = τ3.2.1 93 := hf_τ6.2.1 93 (by decide)
  have g94_τ6 : τ6.2.1 94 = τ3.2.1 94 := hf_τ6.2.1 94 (by decide)
  have g95_τ6 : τ6.2.1 95 = τ3.2.1 95 := hf_τ6.2.1 95 (by decide)
  have g97_τ6 : τ6.2.1 97 = τ3.2.1 97 := hf_τ6.2.1 97 (by decide)
  have g98_τ6 : τ6.2.1 98 = τ3.2.1 98 := hf_τ6.2.1 98 (by decide)
  have g99_τ6 : τ6.2.1 99 = τ3.2.1 99 := hf_τ6.2.1 99 (by decide)
  have g100_τ6 : τ6.2.1 100 = τ3.2.1 100 := hf_τ6.2.1 100 (by decide)
  have W3 : τ6.1 3 = σ.1 3 := by first | exact w3_τ6.trans W3 | omega
  have W4 : τ6.1 4 = σ.1 4 := by first | exact w4_τ6.trans W4 | omega
  have W5 : τ6.1 5 = σ.1 5 := by first | exact w5_τ6.trans W5 | omega
  have W6 : τ6.1 6 = σ.1 6 := by first | exact w6_τ6.trans W6 | omega
  have W7 : τ6.1 7 = σ.1 7 := by first | exact w7_τ6.trans W7 | omega
  have W13 : τ6.1 13 = σ.1 13 := by first | exact w13_τ6.trans W13 | omega
  have W14 : τ6.1 14 = σ.1 14 := by first | exact w14_τ6.trans W14 | omega
  have W15 : τ6.1 15 = σ.1 15 := by first | exact w15_τ6.trans W15 | omega
  have W45 : τ6.1 45 = σ.1 45 := by first | exact w45_τ6.trans W45 | omega
  have W48 : τ6.1 48 = σ.1 48 := by first | exact w48_τ6.trans W48 | omega
  have W49 : τ6.1 49 = σ.1 49 := by first | exact w49_τ6.trans W49 | omega
  have W50 : τ6.1 50 = σ.1 50 := by first | exact w50_τ6.trans W50 | omega
  have W51 : τ6.1 51 = σ.1 51 := by first | exact w51_τ6.trans W51 | omega
  have W52 : τ6.1 52 = σ.1 52 := by first | exact w52_τ6.trans W52 | omega
  have W57 : τ6.1 57 = σ.1 57 := by first | exact w57_τ6.trans W57 | omega
  have W59 : τ6.1 59 = σ.1 59 := by first | exact w59_τ6.trans W59 | omega
  have G2 : τ6.2.1 2 = σ.2.1 2 := (g2_τ6).trans G2
  have G3 : τ6.2.1 3 = σ.2.1 3 := (g3_τ6).trans G3
  have G4 : τ6.2.1 4 = σ.2.1 4 := (g4_τ6).trans G4
  have G8 : τ6.2.1 8 = σ.2.1 8 := (g8_τ6).trans G8
  have G10 : τ6.2.1 10 = σ.2.1 10 := (g10_τ6).trans G10
  have G11 : τ6.2.1 11 = σ.2.1 11 := (g11_τ6).trans G11
  have G13 : τ6.2.1 13 = σ.2.1 13 := (g13_τ6).trans G13
  have G14 : τ6.2.1 14 = σ.2.1 14 := (g14_τ6).trans G14
  have G15 : τ6.2.1 15 = σ.2.1 15 := (g15_τ6).trans G15
  have G16 : τ6.2.1 16 = σ.2.1 16 := (g16_τ6).trans G16
  have G27 : τ6.2.1 27 = σ.2.1 27 := (g27_τ6).trans G27
  have G28 : τ6.2.1 28 = σ.2.1 28 := (g28_τ6).trans G28
  have G29 : τ6.2.1 29 = σ.2.1 29 := (g29_τ6).trans G29
  have G30 : τ6.2.1 30 = σ.2.1 30 := (g30_τ6).trans G30
  have G31 : τ6.2.1 31 = σ.2.1 31 := (g31_τ6).trans G31
  have G32 : τ6.2.1 32 = σ.2.1 32 := (g32_τ6).trans G32
  have G33 : τ6.2.1 33 = σ.2.1 33 := (g33_τ6).trans G33
  have G34 : τ6.2.1 34 = σ.2.1 34 := (g34_τ6).trans G34
  have G35 : τ6.2.1 35 = σ.2.1 35 := (g35_τ6).trans G35
  have G36 : τ6.2.1 36 = σ.2.1 36 := (g36_τ6).trans G36
  have G37 : τ6.2.1 37 = σ.2.1 37 := (g37_τ6).trans G37
  have G69 : τ6.2.1 69 = σ.2.1 69 := (g69_τ6).trans G69
  have G70 : τ6.2.1 70 = σ.2.1 70 := (g70_τ6).trans G70
  have G77 : τ6.2.1 77 = σ.2.1 77 := (g77_τ6).trans G77
  have G78 : τ6.2.1 78 = σ.2.1 78 := (g78_τ6).trans G78
  have G79 : τ6.2.1 79 = σ.2.1 79 := (g79_τ6).trans G79
  have G93 : τ6.2.1 93 = σ.2.1 93 := (g93_τ6).trans G93
  have G94 : τ6.2.1 94 = σ.2.1 94 := (g94_τ6).trans G94
  have y10_49_τ6 : τ6.2.1 10 (τ6.1 49) = (τ3.2.1 10) (τ3.1 49) := by rw [g10_τ6, w49_τ6]
  have TX : J_vs (τ6.1 6) (τ6.1 5) (τ6.2.1 15) := by rw [show (J_vs (τ6.1 6) (τ6.1 5) (τ6.2.1 15)) = (J_vs (τ3.1 6) (τ3.1 5) (τ3.2.1 15)) from by rw [w5_τ6, w6_τ6, g15_τ6]]; exact TX
  have RKS : J_rks (τ6.1 5) (τ6.1 4) (τ6.2.1 10) (τ6.2.1 11) := by rw [show (J_rks (τ6.1 5) (τ6.1 4) (τ6.2.1 10) (τ6.2.1 11)) = (J_rks (τ3.1 5) (τ3.1 4) (τ3.2.1 10) (τ3.2.1 11)) from by rw [w4_τ6, w5_τ6, g10_τ6, g11_τ6]]; exact RKS
  have CJ : J_all (τ6.1 7) (τ6.1 6) (τ6.1 13) (τ6.1 14) (τ6.1 15) (τ6.2.1 13) (τ6.2.1 14) (τ6.2.1 15) (τ6.2.1 16) (τ6.2.1 10) (τ6.2.1 27) (τ6.2.1 28) (τ6.2.1 29) (τ6.2.1 30) (τ6.2.1 31) (τ6.2.1 32) (τ6.2.1 33) (τ6.2.1 34) (τ6.2.1 35) (τ6.2.1 36) (τ6.2.1 37) := by rw [show (J_all (τ6.1 7) (τ6.1 6) (τ6.1 13) (τ6.1 14) (τ6.1 15) (τ6.2.1 13) (τ6.2.1 14) (τ6.2.1 15) (τ6.2.1 16) (τ6.2.1 10) (τ6.2.1 27) (τ6.2.1 28) (τ6.2.1 29) (τ6.2.1 30) (τ6.2.1 31) (τ6.2.1 32) (τ6.2.1 33) (τ6.2.1 34) (τ6.2.1 35) (τ6.2.1 36) (τ6.2.1 37)) = (J_all (τ3.1 7) (τ3.1 6) (τ3.1 13) (τ3.1 14) (τ3.1 15) (τ3.2.1 13) (τ3.2.1 14) (τ3.2.1 15) (τ3.2.1 16) (τ3.2.1 10) (τ3.2.1 27) (τ3.2.1 28) (τ3.2.1 29) (τ3.2.1 30) (τ3.2.1 31) (τ3.2.1 32) (τ3.2.1 33) (τ3.2.1 34) (τ3.2.1 35) (τ3.2.1 36) (τ3.2.1 37)) from by rw [w6_τ6, w7_τ6, w13_τ6, w14_τ6, w15_τ6, g10_τ6, g13_τ6, g14_τ6, g15_τ6, g16_τ6, g27_τ6, g28_τ6, g29_τ6, g30_τ6, g31_τ6, g32_τ6, g33_τ6, g34_τ6, g35_τ6, g36_τ6, g37_τ6]]; exact CJ
  have TRE : g_tre (τ6.1 7) (τ6.1 54) (τ6.2.1 13) (τ6.2.1 14) (τ6.2.1 27) (τ6.2.1 28) (τ6.2.1 29) (τ6.2.1 84) := by rw [show (g_tre (τ6.1 7) (τ6.1 54) (τ6.2.1 13) (τ6.2.1 14) (τ6.2.1 27) (τ6.2.1 28) (τ6.2.1 29) (τ6.2.1 84)) = (g_tre (τ3.1 7) (τ3.1 54) (τ3.2.1 13) (τ3.2.1 14) (τ3.2.1 27) (τ3.2.1 28) (τ3.2.1 29) (τ3.2.1 84)) from by rw [w7_τ6, w54_τ6, g13_τ6, g14_τ6, g27_τ6, g28_τ6, g29_τ6, g84_τ6]]; exact TRE
  have A2 : ∀ j, 0 ≤ τ6.2.1 2 j ∧ τ6.2.1 2 j ≤ 65535 := fun j => hT.2 2 j
  have A3 : ∀ j, 0 ≤ τ6.2.1 3 j ∧ τ6.2.1 3 j ≤ 30000 := fun j => hT.2 3 j
  have A4 : ∀ j, (-1000) ≤ τ6.2.1 4 j ∧ τ6.2.1 4 j ≤ 1499 := fun j => hT.2 4 j
  have A8 : ∀ j, 0 ≤ τ6.2.1 8 j ∧ τ6.2.1 8 j ≤ 1 := fun j => hT.2 8 j
  have A10 : ∀ j, (-1) ≤ τ6.2.1 10 j ∧ τ6.2.1 10 j ≤ 99 := fun j => hT.2 10 j
  have A11 : ∀ j, 0 ≤ τ6.2.1 11 j ∧ τ6.2.1 11 j ≤ 999 := fun j => hT.2 11 j
  have A13 : ∀ j, 0 ≤ τ6.2.1 13 j ∧ τ6.2.1 13 j ≤ 4 := fun j => hT.2 13 j
  have A14 : ∀ j, 0 ≤ τ6.2.1 14 j ∧ τ6.2.1 14 j ≤ 30000 := fun j => hT.2 14 j
  have A15 : ∀ j, 0 ≤ τ6.2.1 15 j ∧ τ6.2.1 15 j ≤ 999 := fun j => hT.2 15 j
  have A16 : ∀ j, (-1) ≤ τ6.2.1 16 j ∧ τ6.2.1 16 j ≤ 1499 := fun j => hT.2 16 j
  have A27 : ∀ j, 0 ≤ τ6.2.1 27 j ∧ τ6.2.1 27 j ≤ 90000 := fun j => hT.2 27 j
  have A28 : ∀ j, 0 ≤ τ6.2.1 28 j ∧ τ6.2.1 28 j ≤ 60 := fun j => hT.2 28 j
  have A29 : ∀ j, 0 ≤ τ6.2.1 29 j ∧ τ6.2.1 29 j ≤ 1499 := fun j => hT.2 29 j
  have A30 : ∀ j, 0 ≤ τ6.2.1 30 j ∧ τ6.2.1 30 j ≤ 20000 := fun j => hT.2 30 j
  have A31 : ∀ j, 0 ≤ τ6.2.1 31 j ∧ τ6.2.1 31 j ≤ 20000 := fun j => hT.2 31 j
  have A32 : ∀ j, 0 ≤ τ6.2.1 32 j ∧ τ6.2.1 32 j ≤ 999999 := fun j => hT.2 32 j
  have A33 : ∀ j, 0 ≤ τ6.2.1 33 j ∧ τ6.2.1 33 j ≤ 20000 := fun j => hT.2 33 j
  have A34 : ∀ j, 0 ≤ τ6.2.1 34 j ∧ τ6.2.1 34 j ≤ 20000 := fun j => hT.2 34 j
  have A35 : ∀ j, 0 ≤ τ6.2.1 35 j ∧ τ6.2.1 35 j ≤ 1499 := fun j => hT.2 35 j
  have A36 : ∀ j, 0 ≤ τ6.2.1 36 j ∧ τ6.2.1 36 j ≤ 20000 := fun j => hT.2 36 j
  have A37 : ∀ j, 0 ≤ τ6.2.1 37 j ∧ τ6.2.1 37 j ≤ 19999 := fun j => hT.2 37 j
  have A39 : ∀ j, 0 ≤ τ6.2.1 39 j ∧ τ6.2.1 39 j ≤ 1060 := fun j => hT.2 39 j
  have A40 : ∀ j, 0 ≤ τ6.2.1 40 j ∧ τ6.2.1 40 j ≤ 42000 := fun j => hT.2 40 j
  have A41 : ∀ j, (-2) ≤ τ6.2.1 41 j ∧ τ6.2.1 41 j ≤ 1000 := fun j => hT.2 41 j
  have A69 : ∀ j, (-100) ≤ τ6.2.1 69 j ∧ τ6.2.1 69 j ≤ 999 := fun j => hT.2 69 j
  have A70 : ∀ j, 0 ≤ τ6.2.1 70 j ∧ τ6.2.1 70 j ≤ 1499 := fun j => hT.2 70 j
  have A77 : ∀ j, 0 ≤ τ6.2.1 77 j ∧ τ6.2.1 77 j ≤ 999 := fun j => hT.2 77 j
  have A78 : ∀ j, (-1) ≤ τ6.2.1 78 j ∧ τ6.2.1 78 j ≤ 1499 := fun j => hT.2 78 j
  have A79 : ∀ j, 0 ≤ τ6.2.1 79 j ∧ τ6.2.1 79 j ≤ 1499 := fun j => hT.2 79 j
  have A84 : ∀ j, 0 ≤ τ6.2.1 84 j ∧ τ6.2.1 84 j ≤ 1499 := fun j => hT.2 84 j
  have A93 : ∀ j, 0 ≤ τ6.2.1 93 j ∧ τ6.2.1 93 j ≤ 1500 := fun j => hT.2 93 j
  have A94 : ∀ j, 0 ≤ τ6.2.1 94 j ∧ τ6.2.1 94 j ≤ 1500 := fun j => hT.2 94 j
  have A95 : ∀ j, 0 ≤ τ6.2.1 95 j ∧ τ6.2.1 95 j ≤ 1500 := fun j => hT.2 95 j
  have A97 : ∀ j, 0 ≤ τ6.2.1 97 j ∧ τ6.2.1 97 j ≤ 1060 := fun j => hT.2 97 j
  have A98 : ∀ j, 0 ≤ τ6.2.1 98 j ∧ τ6.2.1 98 j ≤ 1048576 := fun j => hT.2 98 j
  have A99 : ∀ j, (-2) ≤ τ6.2.1 99 j ∧ τ6.2.1 99 j ≤ 600 := fun j => hT.2 99 j
  have A100 : ∀ j, 0 ≤ τ6.2.1 100 j ∧ τ6.2.1 100 j ≤ 1060 := fun j => hT.2 100 j
  have v3 : 0 ≤ τ6.1 3 ∧ τ6.1 3 ≤ 2500 := hT.1 3
  have v4 : 0 ≤ τ6.1 4 ∧ τ6.1 4 ≤ 100 := hT.1 4
  have v5 : 0 ≤ τ6.1 5 ∧ τ6.1 5 ≤ 1000 := hT.1 5
  have v6 : 0 ≤ τ6.1 6 ∧ τ6.1 6 ≤ 30000 := hT.1 6
  have v7 : 0 ≤ τ6.1 7 ∧ τ6.1 7 ≤ 1500 := hT.1 7
  have v13 : 0 ≤ τ6.1 13 ∧ τ6.1 13 ≤ 90000 := hT.1 13
  have v14 : 0 ≤ τ6.1 14 ∧ τ6.1 14 ≤ 20000 := hT.1 14
  have v15 : 0 ≤ τ6.1 15 ∧ τ6.1 15 ≤ 20000 := hT.1 15
  have v17 : 0 ≤ τ6.1 17 ∧ τ6.1 17 ≤ 42000 := hT.1 17
  have v45 : 1 ≤ τ6.1 45 ∧ τ6.1 45 ≤ 30001 := hT.1 45
  have v48 : (-1) ≤ τ6.1 48 ∧ τ6.1 48 ≤ 999 := hT.1 48
  have v49 : (-1) ≤ τ6.1 49 ∧ τ6.1 49 ≤ 999 := hT.1 49
  have v50 : 0 ≤ τ6.1 50 ∧ τ6.1 50 ≤ 59 := hT.1 50
  have v51 : 0 ≤ τ6.1 51 ∧ τ6.1 51 ≤ 1500 := hT.1 51
  have v52 : (-1) ≤ τ6.1 52 ∧ τ6.1 52 ≤ 99 := hT.1 52
  have v54 : 0 ≤ τ6.1 54 ∧ τ6.1 54 ≤ 12000 := hT.1 54
  have v57 : 0 ≤ τ6.1 57 ∧ τ6.1 57 ≤ 1500 := hT.1 57
  have v59 : 0 ≤ τ6.1 59 ∧ τ6.1 59 ≤ 1500 := hT.1 59
  have v60 : 0 ≤ τ6.1 60 ∧ τ6.1 60 ≤ 1048576 := hT.1 60
  have v61 : 0 ≤ τ6.1 61 ∧ τ6.1 61 ≤ 12000 := hT.1 61
  have v62 : 0 ≤ τ6.1 62 ∧ τ6.1 62 ≤ 12000 := hT.1 62
  have v200 : 16384 ≤ τ6.1 200 ∧ τ6.1 200 ≤ 1048576 := hT.1 200
  have a10_49 : (-1) ≤ τ6.2.1 10 (τ6.1 49) ∧ τ6.2.1 10 (τ6.1 49) ≤ 99 := hT.2 10 _
  rw [o13, o14, o16, o27, o28, o29] at q4_4 q4_3
  have bad5 : ¬ x5 = 0 := fun z => q4_4 z ft f1
  refine ⟨fun c7 => ?_, fun c7 => ?_⟩
  ·
    exact ⟨hT, (show c_Rs τ6 par nof In from by (first | (exfalso; omega) | exact rs20 | exact i115_9 | fail)), (show c_WZ τ6 from by (first | (exfalso; omega) | exact wz20 | exact i115_10 | fail)), (show c_DS In τ6 from by (first | (exfalso; omega) | exact ds20 | exact i115_6 | fail)), (show c_DB (L2 τ6) τ6 from by (first | (exfalso; omega) | exact c_DB_f db20 rfl rfl rfl rfl rfl rfl rfl rfl rfl (by omega) | exact c_DB_n (d := u2_115) (n := u4_115) i115_5 rfl rfl rfl rfl rfl rfl (fun k k0 k1 => cpy_o (show k < τ_115.1 60 from k1)) (fun k k0 k1 => by rw [show (τ_115.2.1 28 : Int → Int) = σ.2.1 28 from G28]; have w := i115_8 (x29 + (k - τ_115.1 60)) (by omega) (by omega); rw [← cpy_i (f := τ_115.2.1 39) (h := τ_115.2.1 97) (sp := x29) (n := u4_115) k0 k1] at w; exact w) rfl rfl (by omega) (fun j => (A98 j).1) (by show τ_115.1 60 + u4_115 ≤ ((τ_115.1 200).toNat : Int); omega) | fail)), (show c_l7 (τ6.1 200) from by (first | (exfalso; omega) | exact l720 | exact i115_11 | fail)), (show (τ6.1 60) ≤ (σ.1 60) + 599 from by (first | omega | (simp only [st_s] <;> omega) | assumption | omega | fail))⟩
  ·
    have eft : τ6.1 61 = ft := g_pp_u (q4_3 (by assumption)) f1
    have ds6 := c_DS_h (c_DS_h p9 hf_τ3 rfl rfl) hf_τ6 rfl rfl
    have s28 := A28 n2
    have u13 := G13
    have u14 := G14
    have u15 := G15
    have u28 := G28
    have u84 := g84_τ6
    refine ⟨_, K_X2_fillSlots hT (show 0 ≤ n2 from by (first | omega | (simp only [st_s] <;> omega) | assumption | omega | fail)) (show n2 < 1500 from by (first | omega | (simp only [st_s] <;> omega) | assumption | omega | fail)) (show J_all (τ6.1 7) (τ6.1 6) (τ6.1 13) (τ6.1 14) (τ6.1 15) (τ6.2.1 13) (τ6.2.1 14) (τ6.2.1 15) (τ6.2.1 16) (τ6.2.1 10) (τ6.2.1 27) (τ6.2.1 28) (τ6.2.1 29) (τ6.2.1 30) (τ6.2.1 31) (τ6.2.1 32) (τ6.2.1 33) (τ6.2.1 34) (τ6.2.1 35) (τ6.2.1 36) (τ6.2.1 37) from CJ) (show g_tre (τ6.1 7) (τ6.1 54) (τ6.2.1 13) (τ6.2.1 14) (τ6.2.1 27) (τ6.2.1 28) (τ6.2.1 29) (τ6.2.1 84) from TRE) (show ∀ v, τ6.2.1 100 v = 0 from by exact ds6.1) (show 0 ≤ (τ6.1 61) from by (first | omega | (simp only [st_s] <;> omega) | assumption | omega | fail)) (show (τ6.1 61) + τ6.2.1 28 n2 < (τ6.1 54) from by (rw [u28]; omega)), ?_⟩
    intro x9 τ10 r_x9 hn_τ10 hf_τ10 hq
    obtain ⟨hT, q8_1, q8_2, q8_3, q8_4⟩ := hq
    replace q8_1 : 0 ≤ x9 ∧ x9 ≤ 1 := q8_1
    replace q8_2 : g_sl (τ6.1 61) (τ6.2.1 28 n2) 1 (τ6.2.1 13) (τ6.2.1 14) (τ6.2.1 15) (τ6.2.1 84) (τ10.2.1 100) := q8_2
    replace q8_3 : ¬ x9 = 0 → g_fx (τ6.1 61) (τ6.2.1 28 n2 + 1) (τ6.2.1 13) (τ6.2.1 14) (τ6.2.1 15) (τ6.2.1 84) := q8_3
    replace q8_4 : x9 = 0 → ¬ g_fx (τ6.1 61) (τ6.2.1 28 n2 + 1) (τ6.2.1 13) (τ6.2.1 14) (τ6.2.1 15) (τ6.2.1 84) := q8_4
    have w3_τ10 : τ10.1 3 = τ6.1 3 := hf_τ10.1 3 (by decide)
    have w4_τ10 : τ10.1 4 = τ6.1 4 := hf_τ10.1 4 (by decide)
    have w5_τ10 : τ10.1 5 = τ6.1 5 := hf_τ10.1 5 (by decide)
    have w6_τ10 : τ10.1 6 = τ6.1 6 := hf_τ10.1 6 (by decide)
    have w7_τ10 : τ10.1 7 = τ6.1 7 := hf_τ10.1 7 (by decide)
    have w13_τ10 : τ10.1 13 = τ6.1 13 := hf_τ10.1 13 (by decide)
    have w14_τ10 : τ10.1 14 = τ6.1 14 := hf_τ10.1 14 (by decide)
    have w15_τ10 : τ10.1 15 = τ6.1 15 := hf_τ10.1 15 (by decide)
    have w17_τ10 : τ10.1 17 = τ6.1 17 := hf_τ10.1 17 (by decide)
    have w45_τ10 : τ10.1 45 = τ6.1 45 := hf_τ10.1 45 (by decide)
    have w48_τ10 : τ10.1 48 = τ6.1 48 := hf_τ10.1 48 (by decide)
    have w49_τ10 : τ10.1 49 = τ6.1 49 := hf_τ10.1 49 (by decide)
    have w50_τ10 : τ10.1 50 = τ6.1 50 := hf_τ10.1 50 (by decide)
    have w51_τ10 : τ10.1 51 = τ6.1 51 := hf_τ10.1 51 (by decide)
    have w52_τ10 : τ10.1 52 = τ6.1 52 := hf_τ10.1 52 (by decide)
    have w54_τ10 : τ10.1 54 = τ6.1 54 := hf_τ10.1 54 (by decide)
    have w57_τ10 : τ10.1 57 = τ6.1 57 := hf_τ10.1 57 (by decide)
    have w59_τ10 : τ10.1 59 = τ6.1 59 := hf_τ10.1 59 (by decide)
    have w60_τ10 : τ10.1 60 = τ6.1 60 := hf_τ10.1 60 (by decide)
    have w61_τ10 : τ10.1 61 = τ6.1 61 := hf_τ10.1 61 (by decide)
    have w62_τ10 : τ10.1 62 = τ6.1 62 := hf_τ10.1 62 (by decide)
    have w200_τ10 : τ10.1 200 = τ6.1 200 := hf_τ10.1 200 (by decide)
    have g2_τ10 : τ10.2.1 2 = τ6.2.1 2 := hf_τ10.2.1 2 (by decide)
    have g3_τ10 : τ10.2.1 3 = τ6.2.1 3 := hf_τ10.2.1 3 (by decide)
    have g4_τ10 : τ10.2.1 4 = τ6.2.1 4 := hf_τ10.2.1 4 (by decide)
    have g8_τ10 : τ10.2.1 8 = τ6.2.1 8 := hf_τ10.2.1 8 (by decide)
    have g10_τ10 : τ10.2.1 10 = τ6.2.1 10 := hf_τ10.2.1 10 (by decide)
    have g11_τ10 : τ10.2.1 11 = τ6.2.1 11 := hf_τ10.2.1 11 (by decide)
    have g13_τ10 : τ10.2.1 13 = τ6.2.1 13 := hf_τ10.2.1 13 (by decide)
    have g14_τ10 : τ10.2.1 14 = τ6.2.1 14 := hf_τ10.2.1 14 (by decide)
    have g15_τ10 : τ10.2.1 15 = τ6.2.1 15 := hf_τ10.2.1 15 (by decide)
    have g16_τ10 : τ10.2.1 16 = τ6.2.1 16 := hf_τ10.2.1 16 (by decide)
    have g27_τ10 : τ10.2.1 27 = τ6.2.1 27 := hf_τ10.2.1 27 (by decide)
    have g28_τ10 : τ10.2.1 28 = τ6.2.1 28 := hf_τ10.2.1 28 (by decide)
    have g29_τ10 : τ10.2.1 29 = τ6.2.1 29 := hf_τ10.2.1 29 (by decide)
    have g30_τ10 : τ10.2.1 30 = τ6.2.1 30 := hf_τ10.2.1 30 (by decide)
    have g31_τ10 : τ10.2.1 31 = τ6.2.1 31 := hf_τ10.2.1 31 (by decide)
    have g32_τ10 : τ10.2.1 32 = τ6.2.1 32 := hf_τ10.2.1 32 (by decide)
    have g33_τ10 : τ10.2.1 33 = τ6.2.1 33 := hf_τ10.2.1 33 (by decide)
    have g34_τ10 : τ10.2.1 34 = τ6.2.1 34 := hf_τ10.2.1 34 (by decide)
    have g35_τ10 : τ10.2.1 35 = τ6.2.1 35 := hf_τ10.2.1 35 (by decide)
    have g36_τ10 : τ10.2.1 36 = τ6.2.1 36 := hf_τ10.2.1 36 (by decide)
    have g37_τ10 : τ10.2.1 37 = τ6.2.1 37 := hf_τ10.2.1 37 (by decide)
    have g39_τ10 : τ10.2.1 39 = τ6.2.1 39 := hf_τ10.2.1 39 (by decide)
    have g40_τ10 : τ10.2.1 40 = τ6.2.1 40 := hf_τ10.2.1 40 (by decide)
    have g41_τ10 : τ10.2.1 41 = τ6.2.1 41 := hf_τ10.2.1 41 (by decide)
    have g69_τ10 : τ10.2.1 69 = τ6.2.1 69 := hf_τ10.2.1 69 (by decide)
    have g70_τ10 : τ10.2.1 70 = τ6.2.1 70 := hf_τ10.2.1 70 (by decide)
    have g77_τ10 : τ10.2.1 77 = τ6.2.1 77 := hf_τ10.2.1 77 (by decide)
    have g78_τ10 : τ10.2.1 78 = τ6.2.1 78 := hf_τ10.2.1 78 (by decide)
    have g79_τ10 : τ10.2.1 79 = τ6.2.1 79 := hf_τ10.2.1 79 (by decide)
    have g84_τ10 : τ10.2.1 84 = τ6.2.1 84 := hf_τ10.2.1 84 (by decide)
    have g93_τ10 : τ10.2.1 93 = τ6.2.1 93 := hf_τ10.2.1 93 (by decide)
    have g94_τ10 : τ10.2.1 94 = τ6.2.1 94 := hf_τ10.2.1 94 (by decide)
    have g95_τ10 : τ10.2.1 95 = τ6.2.1 95 := hf_τ10.2.1 95 (by decide)
    have g97_τ10 : τ10.2.1 97 = τ6.2.1 97 := hf_τ10.2.1 97 (by decide)
    have g98_τ10 : τ10.2.1 98 = τ6.2.1 98 := hf_τ10.2.1 98 (by decide)
    have g99_τ10 : τ10.2.1 99 = τ6.2.1 99 := hf_τ10.2.1 99 (by decide)
    have W3 : τ10.1 3 = σ.1 3 := by first | exact w3_τ10.trans W3 | omega
    have W4 : τ10.1 4 = σ.1 4 := by first | exact w4_τ10.trans W4 | omega
    have W5 : τ10.1 5 = σ.1 5 := by first | exact w5_τ10.trans W5 | omega
    have W6 : τ10.1 6 = σ.1 6 := by first | exact w6_τ10.trans W6 | omega
    have W7 : τ10.1 7 = σ.1 7 := by first | exact w7_τ10.trans W7 | omega
    have W13 : τ10.1 13 = σ.1 13 := by first | exact w13_τ10.trans W13 | omega
    have W14 : τ10.1 14 = σ.1 14 := by first | exact w14_τ10.trans W14 | omega
    have W15 : τ10.1 15 = σ.1 15 := by first | exact w15_τ10.trans W15 | omega
    have W45 : τ10.1 45 = σ.1 45 := by first | exact w45_τ10.trans W45 | omega
    have W48 : τ10.1 48 = σ.1 48 := by first | exact w48_τ10.trans W48 | omega
    have W49 : τ10.1 49 = σ.1 49 := by first | exact w49_τ10.trans W49 | omega
    have W50 : τ10.1 50 = σ.1 50 := by first | exact w50_τ10.trans W50 | omega
    have W51 : τ10.1 51 = σ.1 51 := by first | exact w51_τ10.trans W51 | omega
    have W52 : τ10.1 52 = σ.1 52 := by first | exact w52_τ10.trans W52 | omega
    have W57 : τ10.1 57 = σ.1 57 := by first | exact w57_τ10.trans W57 | omega
    have W59 : τ10.1 59 = σ.1 59 := by first | exact w59_τ10.trans W59 | omega
    have G2 : τ10.2.1 2 = σ.2.1 2 := (g2_τ10).trans G2
    have G3 : τ10.2.1 3 = σ.2.1 3 := (g3_τ10).trans G3
    have G4 : τ10.2.1 4 = σ.2.1 4 := (g4_τ10).trans G4
    have G8 : τ10.2.1 8 = σ.2.1 8 := (g8_τ10).trans G8
    have G10 : τ10.2.1 10 = σ.2.1 10 := (g10_τ10).trans G10
    have G11 : τ10.2.1 11 = σ.2.1 11 := (g11_τ10).trans G11
    have G13 : τ10.2.1 13 = σ.2.1 13 := (g13_τ10).trans G13
    have G14 : τ10.2.1 14 = σ.2.1 14 := (g14_τ10).trans G14
    have G15 : τ10.2.1 15 = σ.2.1 15 := (g15_τ10).trans G15
    have G16 : τ10.2.1 16 = σ.2.1 16 := (g16_τ10).trans G16
    have G27 : τ10.2.1 27 = σ.2.1 27 := (g27_τ10).trans G27
    have G28 : τ10.2.1 28 = σ.2.1 28 := (g28_τ10).trans G28
    have G29 : τ10.2.1 29 = σ.2.1 29 := (g29_τ10).trans G29
    have G30 : τ10.2.1 30 = σ.2.1 30 := (g30_τ10).trans G30
    have G31 : τ10.2.1 31 = σ.2.1 31 := (g31_τ10).trans G31
    have G32 : τ10.2.1 32 = σ.2.1 32 := (g32_τ10).trans G32
    have G33 : τ10.2.1 33 = σ.2.1 33 := (g33_τ10).trans G33
    have G34 : τ10.2.1 34 = σ.2.1 34 := (g34_τ10).trans G34
    have G35 : τ10.2.1 35 = σ.2.1 35 := (g35_τ10).trans G35
    have G36 : τ10.2.1 36 = σ.2.1 36 := (g36_τ10).trans G36
    have G37 : τ10.2.1 37 = σ.2.1 37 := (g37_τ10).trans G37
    have G69 : τ10.2.1 69 = σ.2.1 69 := (g69_τ10).trans G69
    have G70 : τ10.2.1 70 = σ.2.1 70 := (g70_τ10).trans G70
    have G77 : τ10.2.1 77 = σ.2.1 77 := (g77_τ10).trans G77
    have G78 : τ10.2.1 78 = σ.2.1 78 := (g78_τ10).trans G78
    have G79 : τ10.2.1 79 = σ.2.1 79 := (g79_τ10).trans G79
    have G93 : τ10.2.1 93 = σ.2.1 93 := (g93_τ10).trans G93
    have G94 : τ10.2.1 94 = σ.2.1 94 := (g94_τ10).trans G94
    have y10_49_τ10 : τ10.2.1 10 (τ10.1 49) = (τ6.2.1 10) (τ6.1 49) := by rw [g10_τ10, w49_τ10]
    have TX : J_vs (τ10.1 6) (τ10.1 5) (τ10.2.1 15) := by rw [show (J_vs (τ10.1 6) (τ10.1 5) (τ10.2.1 15)) = (J_vs (τ6.1 6) (τ6.1 5) (τ6.2.1 15)) from by rw [w5_τ10, w6_τ10, g15_τ10]]; exact TX
    have RKS : J_rks (τ10.1 5) (τ10.1 4) (τ10.2.1 10) (τ10.2.1 11) := by rw [show (J_rks (τ10.1 5) (τ10.1 4) (τ10.2.1 10) (τ10.2.1 11)) = (J_rks (τ6.1 5) (τ6.1 4) (τ6.2.1 10) (τ6.2.1 11)) from by rw [w4_τ10, w5_τ10, g10_τ10, g11_τ10]]; exact RKS
    have CJ : J_all (τ10.1 7) (τ10.1 6) (τ10.1 13) (τ10.1 14) (τ10.1 15) (τ10.2.1 13) (τ10.2.1 14) (τ10.2.1 15) (τ10.2.1 16) (τ10.2.1 10) (τ10.2.1 27) (τ10.2.1 28) (τ10.2.1 29) (τ10.2.1 30) (τ10.2.1 31) (τ10.2.1 32) (τ10.2.1 33) (τ10.2.1 34) (τ10.2.1 35) (τ10.2.1 36) (τ10.2.1 37) := by rw [show (J_all (τ10.1 7) (τ10.1 6) (τ10.1 13) (τ10.1 14) (τ10.1 15) (τ10.2.1 13) (τ10.2.1 14) (τ10.2.1 15) (τ10.2.1 16) (τ10.2.1 10) (τ10.2.1 27) (τ10.2.1 28) (τ10.2.1 29) (τ10.2.1 30) (τ10.2.1 31) (τ10.2.1 32) (τ10.2.1 33) (τ10.2.1 34) (τ10.2.1 35) (τ10.2.1 36) (τ10.2.1 37)) = (J_all (τ6.1 7) (τ6.1 6) (τ6.1 13) (τ6.1 14) (τ6.1 15) (τ6.2.1 13) (τ6.2.1 14) (τ6.2.1 15) (τ6.2.1 16) (τ6.2.1 10) (τ6.2.1 27) (τ6.2.1 28) (τ6.2.1 29) (τ6.2.1 30) (τ6.2.1 31) (τ6.2.1 32) (τ6.2.1 33) (τ6.2.1 34) (τ6.2.1 35) (τ6.2.1 36) (τ6.2.1 37)) from by rw [w6_τ10, w7_τ10, w13_τ10, w14_τ10, w15_τ10, g10_τ10, g13_τ10, g14_τ10, g15_τ10, g16_τ10, g27_τ10, g28_τ10, g29_τ10, g30_τ10, g31_τ10, g32_τ10, g33_τ10, g34_τ10, g35_τ10, g36_τ10, g37_τ10]]; exact CJ
    have TRE : g_tre (τ10.1 7) (τ10.1 54) (τ10.2.1 13) (τ10.2.1 14) (τ10.2.1 27) (τ10.2.1 28) (τ10.2.1 29) (τ10.2.1 84) := by rw [show (g_tre (τ10.1 7) (τ10.1 54) (τ10.2.1 13) (τ10.2.1 14) (τ10.2.1 27) (τ10.2.1 28) (τ10.2.1 29) (τ10.2.1 84)) = (g_tre (τ6.1 7) (τ6.1 54) (τ6.2.1 13) (τ6.2.1 14) (τ6.2.1 27) (τ6.2.1 28) (τ6.2.1 29) (τ6.2.1 84)) from by rw [w7_τ10, w54_τ10, g13_τ10, g14_τ10, g27_τ10, g28_τ10, g29_τ10, g84_τ10]]; exact TRE
    have A2 : ∀ j, 0 ≤ τ10.2.1 2 j ∧ τ10.2.1 2 j ≤ 65535 := fun j => hT.2 2 j
    have A3 : ∀ j, 0 ≤ τ10.2.1 3 j ∧ τ10.2.1 3 j ≤ 30000 := fun j => hT.2 3 j
    have A4 : ∀ j, (-1000) ≤ τ10.2.1 4 j ∧ τ10.2.1 4 j ≤ 1499 := fun j => hT.2 4 j
    have A8 : ∀ j, 0 ≤ τ10.2.1 8 j ∧ τ10.2.1 8 j ≤ 1 := fun j => hT.2 8 j
    have A10 : ∀ j, (-1) ≤ τ10.2.1 10 j ∧ τ10.2.1 10 j ≤ 99 := fun j => hT.2 10 j
    have A11 : ∀ j, 0 ≤ τ10.2.1 11 j ∧ τ10.2.1 11 j ≤ 999 := fun j => hT.2 11 j
    have A13 : ∀ j, 0 ≤ τ10.2.1 13 j ∧ τ10.2.1 13 j ≤ 4 := fun j => hT.2 13 j
    have A14 : ∀ j, 0 ≤ τ10.2.1 14 j ∧ τ10.2.1 14 j ≤ 30000 := fun j => hT.2 14 j
    have A15 : ∀ j, 0 ≤ τ10.2.1 15 j ∧ τ10.2.1 15 j ≤ 999 := fun j => hT.2 15 j
    have A16 : ∀ j, (-1) ≤ τ10.2.1 16 j ∧ τ10.2.1 16 j ≤ 1499 := fun j => hT.2 16 j
    have A27 : ∀ j, 0 ≤ τ10.2.1 27 j ∧ τ10.2.1 27 j ≤ 90000 := fun j => hT.2 27 j
    have A28 : ∀ j, 0 ≤ τ10.2.1 28 j ∧ τ10.2.1 28 j ≤ 60 := fun j => hT.2 28 j
    have A29 : ∀ j, 0 ≤ τ10.2.1 29 j ∧ τ10.2.1 29 j ≤ 1499 := fun j => hT.2 29 j
    have A30 : ∀ j, 0 ≤ τ10.2.1 30 j ∧ τ10.2.1 30 j ≤ 20000 := fun j => hT.2 30 j
    have A31 : ∀ j, 0 ≤ τ10.2.1 31 j ∧ τ10.2.1 31 j ≤ 20000 := fun j => hT.2 31 j
    have A32 : ∀ j, 0 ≤ τ10.2.1 32 j ∧ τ10.2.1 32 j ≤ 999999 := fun j => hT.2 32 j
    have A33 : ∀ j, 0 ≤ τ10.2.1 33 j ∧ τ10.2.1 33 j ≤ 20000 := fun j => hT.2 33 j
    have A34 : ∀ j, 0 ≤ τ10.2.1 34 j ∧ τ10.2.1 34 j ≤ 20000 := fun j => hT.2 34 j
    have A35 : ∀ j, 0 ≤ τ10.2.1 35 j ∧ τ10.2.1 35 j ≤ 1499 := fun j => hT.2 35 j
    have A36 : ∀ j, 0 ≤ τ10.2.1 36 j ∧ τ10.2.1 36 j ≤ 20000 := fun j => hT.2 36 j
    have A37 : ∀ j, 0 ≤ τ10.2.1 37 j ∧ τ10.2.1 37 j ≤ 19999 := fun j => hT.2 37 j
    have A39 : ∀ j, 0 ≤ τ10.2.1 39 j ∧ τ10.2.1 39 j ≤ 1060 := fun j => hT.2 39 j
    have A40 : ∀ j, 0 ≤ τ10.2.1 40 j ∧ τ10.2.1 40 j ≤ 42000 := fun j => hT.2 40 j
    have A41 : ∀ j, (-2) ≤ τ10.2.1 41 j ∧ τ10.2.1 41 j ≤ 1000 := fun j => hT.2 41 j
    have A69 : ∀ j, (-100) ≤ τ10.2.1 69 j ∧ τ10.2.1 69 j ≤ 999 := fun j => hT.2 69 j
    have A70 : ∀ j, 0 ≤ τ10.2.1 70 j ∧ τ10.2.1 70 j ≤ 1499 := fun j => hT.2 70 j
    have A77 : ∀ j, 0 ≤ τ10.2.1 77 j ∧ τ10.2.1 77 j ≤ 999 := fun j => hT.2 77 j
    have A78 : ∀ j, (-1) ≤ τ10.2.1 78 j ∧ τ10.2.1 78 j ≤ 1499 := fun j => hT.2 78 j
    have A79 : ∀ j, 0 ≤ τ10.2.1 79 j ∧ τ10.2.1 79 j ≤ 1499 := fun j => hT.2 79 j
    have A84 : ∀ j, 0 ≤ τ10.2.1 84 j ∧ τ10.2.1 84 j ≤ 1499 := fun j => hT.2 84 j
    have A93 : ∀ j, 0 ≤ τ10.2.1 93 j ∧ τ10.2.1 93 j ≤ 1500 := fun j => hT.2 93 j
    have A94 : ∀ j, 0 ≤ τ10.2.1 94 j ∧ τ10.2.1 94 j ≤ 1500 := fun j => hT.2 94 j
    have A95 : ∀ j, 0 ≤ τ10.2.1 95 j ∧ τ10.2.1 95 j ≤ 1500 := fun j => hT.2 95 j
    have A97 : ∀ j, 0 ≤ τ10.2.1 97 j ∧ τ10.2.1 97 j ≤ 1060 := fun j => hT.2 97 j
    have A98 : ∀ j, 0 ≤ τ10.2.1 98 j ∧ τ10.2.1 98 j ≤ 1048576 := fun j => hT.2 98 j
    have A99 : ∀ j, (-2) ≤ τ10.2.1 99 j ∧ τ10.2.1 99 j ≤ 600 := fun j => hT.2 99 j
    have A100 : ∀ j, 0 ≤ τ10.2.1 100 j ∧ τ10.2.1 100 j ≤ 1060 := fun j => hT.2 100 j
    have v3 : 0 ≤ τ10.1 3 ∧ τ10.1 3 ≤ 2500 := hT.1 3
    have v4 : 0 ≤ τ10.1 4 ∧ τ10.1 4 ≤ 100 := hT.1 4
    have v5 : 0 ≤ τ10.1 5 ∧ τ10.1 5 ≤ 1000 := hT.1 5
    have v6 : 0 ≤ τ10.1 6 ∧ τ10.1 6 ≤ 30000 := hT.1 6
    have v7 : 0 ≤ τ10.1 7 ∧ τ10.1 7 ≤ 1500 := hT.1 7
    have v13 : 0 ≤ τ10.1 13 ∧ τ10.1 13 ≤ 90000 := hT.1 13
    have v14 : 0 ≤ τ10.1 14 ∧ τ10.1 14 ≤ 20000 := hT.1 14
    have v15 : 0 ≤ τ10.1 15 ∧ τ10.1 15 ≤ 20000 := hT.1 15
    have v17 : 0 ≤ τ10.1 17 ∧ τ10.1 17 ≤ 42000 := hT.1 17
    have v45 : 1 ≤ τ10.1 45 ∧ τ10.1 45 ≤ 30001 := hT.1 45
    have v48 : (-1) ≤ τ10.1 48 ∧ τ10.1 48 ≤ 999 := hT.1 48
    have v49 : (-1) ≤ τ10.1 49 ∧ τ10.1 49 ≤ 999 := hT.1 49
    have v50 : 0 ≤ τ10.1 50 ∧ τ10.1 50 ≤ 59 := hT.1 50
    have v51 : 0 ≤ τ10.1 51 ∧ τ10.1 51 ≤ 1500 := hT.1 51
    have v52 : (-1) ≤ τ10.1 52 ∧ τ10.1 52 ≤ 99 := hT.1 52
    have v54 : 0 ≤ τ10.1 54 ∧ τ10.1 54 ≤ 12000 := hT.1 54
    have v57 : 0 ≤ τ10.1 57 ∧ τ10.1 57 ≤ 1500 := hT.1 57
    have v59 : 0 ≤ τ10.1 59 ∧ τ10.1 59 ≤ 1500 := hT.1 59
    have v60 : 0 ≤ τ10.1 60 ∧ τ10.1 60 ≤ 1048576 := hT.1 60
    have v61 : 0 ≤ τ10.1 61 ∧ τ10.1 61 ≤ 12000 := hT.1 61
    have v62 : 0 ≤ τ10.1 62 ∧ τ10.1 62 ≤ 12000 := hT.1 62
    have v200 : 16384 ≤ τ10.1 200 ∧ τ10.1 200 ≤ 1048576 := hT.1 200
    have a10_49 : (-1) ≤ τ10.2.1 10 (τ10.1 49) ∧ τ10.2.1 10 (τ10.1 49) ≤ 99 := hT.2 10 _
    rw [eft, u13, u14, u15, u28, u84] at q8_4 q8_2
    have bad9 : ¬ x9 = 0 := fun z => q8_4 z f6
    refine ⟨fun c11 => ?_, fun c11 => ?_⟩
    ·
      refine ⟨_, K_X11_behind hT (show 0 ≤ (τ10.1 62) from by (first | omega | (simp only [st_s] <;> omega) | assumption | omega | fail)) (show (τ10.1 62) ≤ (τ10.1 54) from by (first | omega | (simp only [st_s] <;> omega) | assumption | omega | fail)), ?_⟩
      intro x13 r_x13 hq
      obtain ⟨q12_1, q12_2, q12_3⟩ := hq
      replace q12_1 : (τ10.1 62) ≤ x13 ∧ x13 ≤ (τ10.1 54) := q12_1
      replace q12_2 : (τ10.1 62) < (τ10.1 54) → (τ10.1 62) < x13 := q12_2
      replace q12_3 : g_bh (τ10.1 54) (τ10.1 62) x13 (τ10.2.1 13) (τ10.2.1 28) (τ10.2.1 84) := q12_3
      obtain ⟨B, e_B⟩ : ∃ z : Int, z = 1000 + σ.2.1 28 n2 := ⟨_, rfl⟩
      have b28 : 0 ≤ σ.2.1 28 n2 := by rw [← G28]; exact (A28 n2).1
      have db10 : c_DB (L2 τ10) τ10 := c_DB_q p10 W7 W57 W59 (by omega) G28 (by rw [g95_τ10, g95_τ6, g95_τ3]) (fun k _ _ => by rw [g97_τ10, g97_τ6, g97_τ3]) (fun j => (hT0.2 98 j).1) (by rw [g98_τ10, g98_τ6, g98_τ3]) (by rw [g99_τ10, g99_τ6, g99_τ3]) (by rw [L2_e (show τ10.1 200 = σ.1 200 by omega)]; exact Nat.le_refl _)
      have z13 := q12_1
      refine ⟨_, K_X2_evaluate hT (show 0 ≤ (τ10.1 62) ∧ (τ10.1 62) ≤ x13 from by (first | omega | (simp only [st_s] <;> omega) | assumption | omega | fail)) (show x13 ≤ (τ10.1 54) from by (first | omega | (simp only [st_s] <;> omega) | assumption | omega | fail)) (show J_all (τ10.1 7) (τ10.1 6) (τ10.1 13) (τ10.1 14) (τ10.1 15) (τ10.2.1 13) (τ10.2.1 14) (τ10.2.1 15) (τ10.2.1 16) (τ10.2.1 10) (τ10.2.1 27) (τ10.2.1 28) (τ10.2.1 29) (τ10.2.1 30) (τ10.2.1 31) (τ10.2.1 32) (τ10.2.1 33) (τ10.2.1 34) (τ10.2.1 35) (τ10.2.1 36) (τ10.2.1 37) from CJ) (show g_tre (τ10.1 7) (τ10.1 54) (τ10.2.1 13) (τ10.2.1 14) (τ10.2.1 27) (τ10.2.1 28) (τ10.2.1 29) (τ10.2.1 84) from TRE) (show g_bd (τ10.1 60) (τ10.2.1 95) (τ10.2.1 98) (τ10.2.1 99) (τ10.2.1 97) (τ10.2.1 28) from by exact db10.1) (show (τ10.1 60) ≤ ((L2 τ10) : Int) from by exact db10.2.1) (show 1000 ≤ B from by (first | omega | (simp only [st_s] <;> omega) | assumption | omega | fail)) (show ∀ v, τ10.2.1 100 v < B from by (intro v; by_cases z : τ10.2.1 100 v = 0; (rw [z]; omega); (have := (q8_2 v z).2; omega))), ?_⟩
      intro x16 τ17 r_x16 hn_τ17 hf_τ17 hq
      obtain ⟨hT, q15_1, q15_2⟩ := hq
      replace q15_1 : 0 ≤ x16 ∧ x16 ≤ 1 := q15_1
      replace q15_2 : ¬ x16 = 0 → g_ev B 1 (τ17.1 17) (τ17.2.1 40) (τ17.2.1 41) (τ17.2.1 39) ∧ 0 ≤ τ17.2.1 41 0 := q15_2
      have w3_τ17 : τ17.1 3 = τ10.1 3 := hf_τ17.1 3 (by decide)
      have w4_τ17 : τ17.1 4 = τ10.1 4 := hf_τ17.1 4 (by decide)
      have w5_τ17 : τ17.1 5 = τ10.1 5 := hf_τ17.1 5 (by decide)
      have w6_τ17 : τ17.1 6 = τ10.1 6 := hf_τ17.1 6 (by decide)
      have w7_τ17 : τ17.1 7 = τ10.1 7 := hf_τ17.1 7 (by decide)
      have w13_τ17 : τ17.1 13 = τ10.1 13 := hf_τ17.1 13 (by decide)
      have w14_τ17 : τ17.1 14 = τ10.1 14 := hf_τ17.1 14 (by decide)
      have w15_τ17 : τ17.1 15 = τ10.1 15 := hf_τ17.1 15 (by decide)
      have w45_τ17 : τ17.1 45 = τ10.1 45 := hf_τ17.1 45 (by decide)
      have w48_τ17 : τ17.1 48 = τ10.1 48 := hf_τ17.1 48 (by decide)
      have w49_τ17 : τ17.1 49 = τ10.1 49 := hf_τ17.1 49 (by decide)
      have w50_τ17 : τ17.1 50 = τ10.1 50 := hf_τ17.1 50 (by decide)
      have w51_τ17 : τ17.1 51 = τ10.1 51 := hf_τ17.1 51 (by decide)
      have w52_τ17 : τ17.1 52 = τ10.1 52 := hf_τ17.1 52 (by decide)
      have w54_τ17 : τ17.1 54 = τ10.1 54 := hf_τ17.1 54 (by decide)
      have w57_τ17 : τ17.1 57 = τ10.1 57 := hf_τ17.1 57 (by decide)
      have w59_τ17 : τ17.1 59 = τ10.1 59 := hf_τ17.1 59 (by decide)
      have w60_τ17 : τ17.1 60 = τ10.1 60 := hf_τ17.1 60 (by decide)
      have w61_τ17 : τ17.1 61 = τ10.1 61 := hf_τ17.1 61 (by decide)
      have w62_τ17 : τ17.1 62 = τ10.1 62 := hf_τ17.1 62 (by decide)
      have w200_τ17 : τ17.1 200 = τ10.1 200 := hf_τ17.1 200 (by decide)
      have g2_τ17 : τ17.2.1 2 = τ10.2.1 2 := hf_τ17.2.1 2 (by decide)
      have g3_τ17 : τ17.2.1 3 = τ10.2.1 3 := hf_τ17.2.1 3 (by decide)
      have g4_τ17 : τ17.2.1 4 = τ10.2.1 4 := hf_τ17.2.1 4 (by decide)
      have g8_τ17 : τ17.2.1 8 = τ10.2.1 8 := hf_τ17.2.1 8 (by decide)
      have g10_τ17 : τ17.2.1 10 = τ10.2.1 10 := hf_τ17.2.1 10 (by decide)
      have g11_τ17 : τ17.2.1 11 = τ10.2.1 11 := hf_τ17.2.1 11 (by decide)
      have g13_τ17 : τ17.2.1 13 = τ10.2.1 13 := hf_τ17.2.1 13 (by decide)
      have g14_τ17 : τ17.2.1 14 = τ10.2.1 14 := hf_τ17.2.1 14 (by decide)
      have g15_τ17 : τ17.2.1 15 = τ10.2.1 15 := hf_τ17.2.1 15 (by decide)
      have g16_τ17 : τ17.2.1 16 = τ10.2.1 16 := hf_τ17.2.1 16 (by decide)
      have g27_τ17 : τ17.2.1 27 = τ10.2.1 27 := hf_τ17.2.1 27 (by decide)
      have g28_τ17 : τ17.2.1 28 = τ10.2.1 28 := hf_τ17.2.1 28 (by decide)
      have g29_τ17 : τ17.2.1 29 = τ10.2.1 29 := hf_τ17.2.1 29 (by decide)
      have g30_τ17 : τ17.2.1 30 = τ10.2.1 30 := hf_τ17.2.1 30 (by decide)
      have g31_τ17 : τ17.2.1 31 = τ10.2.1 31 := hf_τ17.2.1 31 (by decide)
      have g32_τ17 : τ17.2.1 32 = τ10.2.1 32 := hf_τ17.2.1 32 (by decide)
      have g33_τ17 : τ17.2.1 33 = τ10.2.1 33 := hf_τ17.2.1 33 (by decide)
      have g34_τ17 : τ17.2.1 34 = τ10.2.1 34 := hf_τ17.2.1 34 (by decide)
      have g35_τ17 : τ17.2.1 35 = τ10.2.1 35 := hf_τ17.2.1 35 (by decide)
      have g36_τ17 : τ17.2.1 36 = τ10.2.1 36 := hf_τ17.2.1 36 (by decide)
      have g37_τ17 : τ17.2.1 37 = τ10.2.1 37 := hf_τ17.2.1 37 (by decide)
      have g69_τ17 : τ17.2.1 69 = τ10.2.1 69 := hf_τ17.2.1 69 (by decide)
      have g70_τ17 : τ17.2.1 70 = τ10.2.1 70 := hf_τ17.2.1 70 (by decide)
      have g77_τ17 : τ17.2.1 77 = τ10.2.1 77 := hf_τ17.2.1 77 (by decide)
      have g78_τ17 : τ17.2.1 78 = τ10.2.1 78 := hf_τ17.2.1 78 (by decide)
      have g79_τ17 : τ17.2.1 79 = τ10.2.1 79 := hf_τ17.2.1 79 (by decide)
      have g84_τ17 : τ17.2.1 84 = τ10.2.1 84 := hf_τ17.2.1 84 (by decide)
      have g93_τ17 : τ17.2.1 93 = τ10.2.1 93 := hf_τ17.2.1 93 (by decide)
      have g94_τ17 : τ17.2.1 94 = τ10.2.1 94 := hf_τ17.2.1 94 (by decide)
      have g95_τ17 : τ17.2.1 95 = τ10.2.1 95 := hf_τ17.2.1 95 (by decide)
      have g97_τ17 : τ17.2.1 97 = τ10.2.1 97 := hf_τ17.2.1 97 (by decide)
      have g98_τ17 : τ17.2.1 98 = τ10.2.1 98 := hf_τ17.2.1 98 (by decide)
      have g99_τ17 : τ17.2.1 99 = τ10.2.1 99 := hf_τ17.2.1 99 (by decide)
      have g100_τ17 : τ17.2.1 100 = τ10.2.1 100 := hf_τ17.2.1 100 (by decide)
      have W3 : τ17.1 3 = σ.1 3 := by first | exact w3_τ17.trans W3 | omega
      have W4 : τ17.1 4 = σ.1 4 := by first | exact w4_τ17.trans W4 | omega
      have W5 : τ17.1 5 = σ.1 5 := by first | exact w5_τ17.trans W5 | omega
      have W6 : τ17.1 6 = σ.1 6 := by first | exact w6_τ17.trans W6 | omega
      have W7 : τ17.1 7 = σ.1 7 := by first | exact w7_τ17.trans W7 | omega
      have W13 : τ17.1 13 = σ.1 13 := by first | exact w13_τ17.trans W13 | omega
      have W14 : τ17.1 14 = σ.1 14 := by first | exact w14_τ17.trans W14 | omega
      have W15 : τ17.1 15 = σ.1 15 := by first | exact w15_τ17.trans W15 | omega
      have W45 : τ17.1 45 = σ.1 45 := by first | exact w45_τ17.trans W45 | omega
      have W48 : τ17.1 48 = σ.1 48 := by first | exact w48_τ17.trans W48 | omega
      have W49 : τ17.1 49 = σ.1 49 := by first | exact w49_τ17.trans W49 | omega
      have W50 : τ17.1 50 = σ.1 50 := by first | exact w50_τ17.trans W50 | omega
      have W51 : τ17.1 51 = σ.1 51 := by first | exact w51_τ17.trans W51 | omega
      have W52 : τ17.1 52 = σ.1 52 := by first | exact w52_τ17.trans W52 | omega
      have W57 : τ17.1 57 = σ.1 57 := by first | exact w57_τ17.trans W57 | omega
      have W59 : τ17.1 59 = σ.1 59 := by first | exact w59_τ17.trans W59 | omega
      have G2 : τ17.2.1 2 = σ.2.1 2 := (g2_τ17).trans G2
      have G3 : τ17.2.1 3 = σ.2.1 3 := (g3_τ17).trans G3
      have G4 : τ17.2.1 4 = σ.2.1 4 := (g4_τ17).trans G4
      have G8 : τ17.2.1 8 = σ.2.1 8 := (g8_τ17).trans G8
      have G10 : τ17.2.1 10 = σ.2.1 10 := (g10_τ17).trans G10
      have G11 : τ17.2.1 11 = σ.2.1 11 := (g11_τ17).trans G11
      have G13 : τ17.2.1 13 = σ.2.1 13 := (g13_τ17).trans G13
      have G14 : τ17.2.1 14 = σ.2.1 14 := (g14_τ17).trans G14
      have G15 : τ17.2.1 15 = σ.2.1 15 := (g15_τ17).trans G15
      have G16 : τ17.2.1 16 = σ.2.1 16 := (g16_τ17).trans G16
      have G27 : τ17.2.1 27 = σ.2.1 27 := (g27_τ17).trans G27
      have G28 : τ17.2.1 28 = σ.2.1 28 := (g28_τ17).trans G28
      have G29 : τ17.2.1 29 = σ.2.1 29 := (g29_τ17).trans G29
      have G30 : τ17.2.1 30 = σ.2.1 30 := (g30_τ17).trans G30
      have G31 : τ17.2.1 31 = σ.2.1 31 := (g31_τ17).trans G31
      have G32 : τ17.2.1 32 = σ.2.1 32 := (g32_τ17).trans G32
      have G33 : τ17.2.1 33 = σ.2.1 33 := (g33_τ17).trans G33
      have G34 : τ17.2.1 34 = σ.2.1 34 := (g34_τ17).trans G34
      have G35 : τ17.2.1 35 = σ.2.1 35 := (g35_τ17).trans G35
      have G36 : τ17.2.1 36 = σ.2.1 36 := (g36_τ17).trans G36
      have G37 : τ17.2.1 37 = σ.2.1 37 := (g37_τ17).trans G37
      have G69 : τ17.2.1 69 = σ.2.1 69 := (g69_τ17).trans G69
      have G70 : τ17.2.1 70 = σ.2.1 70 := (g70_τ17).trans G70
      have G77 : τ17.2.1 77 = σ.2.1 77 := (g77_τ17).trans G77
      have G78 : τ17.2.1 78 = σ.2.1 78 := (g78_τ17).trans G78
      have G79 : τ17.2.1 79 = σ.2.1 79 := (g79_τ17).trans G79
      have G93 : τ17.2.1 93 = σ.2.1 93 := (g93_τ17).trans G93
      have G94 : τ17.2.1 94 = σ.2.1 94 := (g94_τ17).trans G94
      have y10_49_τ17 : τ17.2.1 10 (τ17.1 49) = (τ10.2.1 10) (τ10.1 49) := by rw [g10_τ17, w49_τ17]
      have TX : J_vs (τ17.1 6) (τ17.1 5) (τ17.2.1 15) := by rw [show (J_vs (τ17.1 6) (τ17.1 5) (τ17.2.1 15)) = (J_vs (τ10.1 6) (τ10.1 5) (τ10.2.1 15)) from by rw [w5_τ17, w6_τ17, g15_τ17]]; exact TX
      have RKS : J_rks (τ17.1 5) (τ17.1 4) (τ17.2.1 10) (τ17.2.1 11) := by rw [show (J_rks (τ17.1 5) (τ17.1 4) (τ17.2.1 10) (τ17.2.1 11)) = (J_rks (τ10.1 5) (τ10.1 4) (τ10.2.1 10) (τ10.2.1 11)) from by rw [w4_τ17, w5_τ17, g10_τ17, g11_τ17]]; exact RKS
      have CJ : J_all (τ17.1 7) (τ17.1 6) (τ17.1 13) (τ17.1 14) (τ17.1 15) (τ17.2.1 13) (τ17.2.1 14) (τ17.2.1 15) (τ17.2.1 16) (τ17.2.1 10) (τ17.2.1 27) (τ17.2.1 28) (τ17.2.1 29) (τ17.2.1 30) (τ17.2.1 31) (τ17.2.1 32) (τ17.2.1 33) (τ17.2.1 34) (τ17.2.1 35) (τ17.2.1 36) (τ17.2.1 37) := by rw [show (J_all (τ17.1 7) (τ17.1 6) (τ17.1 13) (τ17.1 14) (τ17.1 15) (τ17.2.1 13) (τ17.2.1 14) (τ17.2.1 15) (τ17.2.1 16) (τ17.2.1 10) (τ17.2.1 27) (τ17.2.1 28) (τ17.2.1 29) (τ17.2.1 30) (τ17.2.1 31) (τ17.2.1 32) (τ17.2.1 33) (τ17.2.1 34) (τ17.2.1 35) (τ17.2.1 36) (τ17.2.1 37)) = (J_all (τ10.1 7) (τ10.1 6) (τ10.1 13) (τ10.1 14) (τ10.1 15) (τ10.2.1 13) (τ10.2.1 14) (τ10.2.1 15) (τ10.2.1 16) (τ10.2.1 10) (τ10.2.1 27) (τ10.2.1 28) (τ10.2.1 29) (τ10.2.1 30) (τ10.2.1 31) (τ10.2.1 32) (τ10.2.1 33) (τ10.2.1 34) (τ10.2.1 35) (τ10.2.1 36) (τ10.2.1 37)) from by rw [w6_τ17, w7_τ17, w13_τ17, w14_τ17, w15_τ17, g10_τ17, g13_τ17, g14_τ17, g15_τ17, g16_τ17, g27_τ17, g28_τ17, g29_τ17, g30_τ17, g31_τ17, g32_τ17, g33_τ17, g34_τ17, g35_τ17, g36_τ17, g37_τ17]]; exact CJ
      have TRE : g_tre (τ17.1 7) (τ17.1 54) (τ17.2.1 13) (τ17.2.1 14) (τ17.2.1 27) (τ17.2.1 28) (τ17.2.1 29) (τ17.2.1 84) := by rw [show (g_tre (τ17.1 7) (τ17.1 54) (τ17.2.1 13) (τ17.2.1 14) (τ17.2.1 27) (τ17.2.1 28) (τ17.2.1 29) (τ17.2.1 84)) = (g_tre (τ10.1 7) (τ10.1 54) (τ10.2.1 13) (τ10.2.1 14) (τ10.2.1 27) (τ10.2.1 28) (τ10.2.1 29) (τ10.2.1 84)) from by rw [w7_τ17, w54_τ17, g13_τ17, g14_τ17, g27_τ17, g28_τ17, g29_τ17, g84_τ17]]; exact TRE
      have A2 : ∀ j, 0 ≤ τ17.2.1 2 j ∧ τ17.2.1 2 j ≤ 65535 := fun j => hT.2 2 j
      have A3 : ∀ j, 0 ≤ τ17.2.1 3 j ∧ τ17.2.1 3 j ≤ 30000 := fun j => hT.2 3 j
      have A4 : ∀ j, (-1000) ≤ τ17.2.1 4 j ∧ τ17.2.1 4 j ≤ 1499 := fun j => hT.2 4 j
      have A8 : ∀ j, 0 ≤ τ17.2.1 8 j ∧ τ17.2.1 8 j ≤ 1 := fun j => hT.2 8 j
      have A10 : ∀ j, (-1) ≤ τ17.2.1 10 j ∧ τ17.2.1 10 j ≤ 99 := fun j => hT.2 10 j
      have A11 : ∀ j, 0 ≤ τ17.2.1 11 j ∧ τ17.2.1 11 j ≤ 999 := fun j => hT.2 11 j
      have A13 : ∀ j, 0 ≤ τ17.2.1 13 j ∧ τ17.2.1 13 j ≤ 4 := fun j => hT.2 13 j
      have A14 : ∀ j, 0 ≤ τ17.2.1 14 j ∧ τ17.2.1 14 j ≤ 30000 := fun j => hT.2 14 j
      have A15 : ∀ j, 0 ≤ τ17.2.1 15 j ∧ τ17.2.1 15 j ≤ 999 := fun j => hT.2 15 j
      have A16 : ∀ j, (-1) ≤ τ17.2.1 16 j ∧ τ17.2.1 16 j ≤ 1499 := fun j => hT.2 16 j
      have A27 : ∀ j, 0 ≤ τ17.2.1 27 j ∧ τ17.2.1 27 j ≤ 90000 := fun j => hT.2 27 j
      have A28 : ∀ j, 0 ≤ τ17.2.1 28 j ∧ τ17.2.1 28 j ≤ 60 := fun j => hT.2 28 j
      have A29 : ∀ j, 0 ≤ τ17.2.1 29 j ∧ τ17.2.1 29 j ≤ 1499 := fun j => hT.2 29 j
      have A30 : ∀ j, 0 ≤ τ17.2.1 30 j ∧ τ17.2.1 30 j ≤ 20000 := fun j => hT.2 30 j
      have A31 : ∀ j, 0 ≤ τ17.2.1 31 j ∧ τ17.2.1 31 j ≤ 20000 := fun j => hT.2 31 j
      have A32 : ∀ j, 0 ≤ τ17.2.1 32 j ∧ τ17.2.1 32 j ≤ 999999 := fun j => hT.2 32 j
      have A33 : ∀ j, 0 ≤ τ17.2.1 33 j ∧ τ17.2.1 33 j ≤ 20000 := fun j => hT.2 33 j
      have A34 : ∀ j, 0 ≤ τ17.2.1 34 j ∧ τ17.2.1 34 j ≤ 20000 := fun j => hT.2 34 j
      have A35 : ∀ j, 0 ≤ τ17.2.1 35 j ∧ τ17.2.1 35 j ≤ 1499 := fun j => hT.2 35 j
      have A36 : ∀ j, 0 ≤ τ17.2.1 36 j ∧ τ17.2.1 36 j ≤ 20000 := fun j => hT.2 36 j
      have A37 : ∀ j, 0 ≤ τ17.2.1 37 j ∧ τ17.2.1 37 j ≤ 19999 := fun j => hT.2 37 j
      have A39 : ∀ j, 0 ≤ τ17.2.1 39 j ∧ τ17.2.1 39 j ≤ 1060 := fun j => hT.2 39 j
      have A40 : ∀ j, 0 ≤ τ17.2.1 40 j ∧ τ17.2.1 40 j ≤ 42000 := fun j => hT.2 40 j
      have A41 : ∀ j, (-2) ≤ τ17.2.1 41 j ∧ τ17.2.1 41 j ≤ 1000 := fun j => hT.2 41 j
      have A69 : ∀ j, (-100) ≤ τ17.2.1 69 j ∧ τ17.2.1 69 j ≤ 999 := fun j => hT.2 69 j
      have A70 : ∀ j, 0 ≤ τ17.2.1 70 j ∧ τ17.2.1 70 j ≤ 1499 := fun j => hT.2 70 j
      have A77 : ∀ j, 0 ≤ τ17.2.1 77 j ∧ τ17.2.1 77 j ≤ 999 := fun j => hT.2 77 j
      have A78 : ∀ j, (-1) ≤ τ17.2.1 78 j ∧ τ17.2.1 78 j ≤ 1499 := fun j => hT.2 78 j
      have A79 : ∀ j, 0 ≤ τ17.2.1 79 j ∧ τ17.2.1 79 j ≤ 1499 := fun j => hT.2 79 j
      have A84 : ∀ j, 0 ≤ τ17.2.1 84 j ∧ τ17.2.1 84 j ≤ 1499 := fun j => hT.2 84 j
      have A93 : ∀ j, 0 ≤ τ17.2.1 93 j ∧ τ17.2.1 93 j ≤ 1500 := fun j => hT.2 93 j
      have A94 : ∀ j, 0 ≤ τ17.2.1 94 j ∧ τ17.2.1 94 j ≤ 1500 := fun j => hT.2 94 j
      have A95 : ∀ j, 0 ≤ τ17.2.1 95 j ∧ τ17.2.1 95 j ≤ 1500 := fun j => hT.2 95 j
      have A97 : ∀ j, 0 ≤ τ17.2.1 97 j ∧ τ17.2.1 97 j ≤ 1060 := fun j => hT.2 97 j
      have A98 : ∀ j, 0 ≤ τ17.2.1 98 j ∧ τ17.2.1 98 j ≤ 1048576 := fun j => hT.2 98 j
      have A99 : ∀ j, (-2) ≤ τ17.2.1 99 j ∧ τ17.2.1 99 j ≤ 600 := fun j => hT.2 99 j
      have A100 : ∀ j, 0 ≤ τ17.2.1 100 j ∧ τ17.2.1 100 j ≤ 1060 := fun j => hT.2 100 j
      have v3 : 0 ≤ τ17.1 3 ∧ τ17.1 3 ≤ 2500 := hT.1 3
      have v4 : 0 ≤ τ17.1 4 ∧ τ17.1 4 ≤ 100 := hT.1 4
      have v5 : 0 ≤ τ17.1 5 ∧ τ17.1 5 ≤ 1000 := hT.1 5
      have v6 : 0 ≤ τ17.1 6 ∧ τ17.1 6 ≤ 30000 := hT.1 6
      have v7 : 0 ≤ τ17.1 7 ∧ τ17.1 7 ≤ 1500 := hT.1 7
      have v13 : 0 ≤ τ17.1 13 ∧ τ17.1 13 ≤ 90000 := hT.1 13
      have v14 : 0 ≤ τ17.1 14 ∧ τ17.1 14 ≤ 20000 := hT.1 14
      have v15 : 0 ≤ τ17.1 15 ∧ τ17.1 15 ≤ 20000 := hT.1 15
      have v17 : 0 ≤ τ17.1 17 ∧ τ17.1 17 ≤ 42000 := hT.1 17
      have v45 : 1 ≤ τ17.1 45 ∧ τ17.1 45 ≤ 30001 := hT.1 45
      have v48 : (-1) ≤ τ17.1 48 ∧ τ17.1 48 ≤ 999 := hT.1 48
      have v49 : (-1) ≤ τ17.1 49 ∧ τ17.1 49 ≤ 999 := hT.1 49
      have v50 : 0 ≤ τ17.1 50 ∧ τ17.1 50 ≤ 59 := hT.1 50
      have v51 : 0 ≤ τ17.1 51 ∧ τ17.1 51 ≤ 1500 := hT.1 51
      have v52 : (-1) ≤ τ17.1 52 ∧ τ17.1 52 ≤ 99 := hT.1 52
      have v54 : 0 ≤ τ17.1 54 ∧ τ17.1 54 ≤ 12000 := hT.1 54
      have v57 : 0 ≤ τ17.1 57 ∧ τ17.1 57 ≤ 1500 := hT.1 57
      have v59 : 0 ≤ τ17.1 59 ∧ τ17.1 59 ≤ 1500 := hT.1 59
      have v60 : 0 ≤ τ17.1 60 ∧ τ17.1 60 ≤ 1048576 := hT.1 60
      have v61 : 0 ≤ τ17.1 61 ∧ τ17.1 61 ≤ 12000 := hT.1 61
      have v62 : 0 ≤ τ17.1 62 ∧ τ17.1 62 ≤ 12000 := hT.1 62
      have v200 : 16384 ≤ τ17.1 200 ∧ τ17.1 200 ≤ 1048576 := hT.1 200
      have a10_49 : (-1) ≤ τ17.2.1 10 (τ17.1 49) ∧ τ17.2.1 10 (τ17.1 49) ≤ 99 := hT.2 10 _
      have ev := fun z => (q15_2 z).1.2 0 (Int.le_refl _) (by omega)
      refine ⟨_, K_X2_clearSlots hT (show 0 ≤ n2 from by (first | omega | (simp only [st_s] <;> omega) | assumption | omega | fail)) (show n2 < 1500 from by (first | omega | (simp only [st_s] <;> omega) | assumption | omega | fail)) (show J_all (τ17.1 7) (τ17.1 6) (τ17.1 13) (τ17.1 14) (τ17.1 15) (τ17.2.1 13) (τ17.2.1 14) (τ17.2.1 15) (τ17.2.1 16) (τ17.2.1 10) (τ17.2.1 27) (τ17.2.1 28) (τ17.2.1 29) (τ17.2.1 30) (τ17.2.1 31) (τ17.2.1 32) (τ17.2.1 33) (τ17.2.1 34) (τ17.2.1 35) (τ17.2.1 36) (τ17.2.1 37) from CJ) (show g_tre (τ17.1 7) (τ17.1 54) (τ17.2.1 13) (τ17.2.1 14) (τ17.2.1 27) (τ17.2.1 28) (τ17.2.1 29) (τ17.2.1 84) from TRE) (show 0 ≤ (τ17.1 61) from by (first | omega | (simp only [st_s] <;> omega) | assumption | omega | fail)) (show (τ17.1 61) + τ17.2.1 28 n2 < (τ17.1 54) from by (rw [G28]; omega)) (show g_sl (τ17.1 61) (τ17.2.1 28 n2) 1 (τ17.2.1 13) (τ17.2.1 14) (τ17.2.1 15) (τ17.2.1 84) (τ17.2.1 100) from by (rw [G13, G14, G15, G28, g100_τ17, show τ17.1 61 = ft from by omega, show τ17.2.1 84 = τ3.2.1 84 from by rw [g84_τ17, g84_τ10, u84]]; exact q8_2)), ?_⟩
      intro τ20 hn_τ20 hf_τ20 hq
      obtain ⟨hT, q18_1⟩ := hq
      replace q18_1 : ∀ v, τ20.2.1 100 v = 0 := q18_1
      have w3_τ20 : τ20.1 3 = τ17.1 3 := hf_τ20.1 3 (by decide)
      have w4_τ20 : τ20.1 4 = τ17.1 4 := hf_τ20.1 4 (by decide)
      have w5_τ20 : τ20.1 5 = τ17.1 5 := hf_τ20.1 5 (by decide)
      have w6_τ20 : τ20.1 6 = τ17.1 6 := hf_τ20.1 6 (by decide)
      have w7_τ20 : τ20.1 7 = τ17.1 7 := hf_τ20.1 7 (by decide)
      have w13_τ20 : τ20.1 13 = τ17.1 13 := hf_τ20.1 13 (by decide)
      have w14_τ20 : τ20.1 14 = τ17.1 14 := hf_τ20.1 14 (by decide)
      have w15_τ20 : τ20.1 15 = τ17.1 15 := hf_τ20.1 15 (by decide)
      have w17_τ20 : τ20.1 17 = τ17.1 17 := hf_τ20.1 17 (by decide)
      have w45_τ20 : τ20.1 45 = τ17.1 45 := hf_τ20.1 45 (by decide)
      have w48_τ20 : τ20.1 48 = τ17.1 48 := hf_τ20.1 48 (by decide)
      have w49_τ20 : τ20.1 49 = τ17.1 49 := hf_τ20.1 49 (by decide)
      have w50_τ20 : τ20.1 50 = τ17.1 50 := hf_τ20.1 50 (by decide)
      have w51_τ20 : τ20.1 51 = τ17.1 51 := hf_τ20.1 51 (by decide)
      have w52_τ20 : τ20.1 52 = τ17.1 52 := hf_τ20.1 52 (by decide)
      have w54_τ20 : τ20.1 54 = τ17.1 54 := hf_τ20.1 54 (by decide)
      have w57_τ20 : τ20.1 57 = τ17.1 57 := hf_τ20.1 57 (by decide)
      have w59_τ20 : τ20.1 59 = τ17.1 59 := hf_τ20.1 59 (by decide)
      have w60_τ20 : τ20.1 60 = τ17.1 60 := hf_τ20.1 60 (by decide)
      have w61_τ20 : τ20.1 61 = τ17.1 61 := hf_τ20.1 61 (by decide)
      have w62_τ20 : τ20.1 62 = τ17.1 62 := hf_τ20.1 62 (by decide)
      have w200_τ20 : τ20.1 200 = τ17.1 200 := hf_τ20.1 200 (by decide)
      have g2_τ20 : τ20.2.1 2 = τ17.2.1 2 := hf_τ20.2.1 2 (by decide)
      have g3_τ20 : τ20.2.1 3 = τ17.2.1 3 := hf_τ20.2.1 3 (by decide)
      have g4_τ20 : τ20.2.1 4 = τ17.2.1 4 := hf_τ20.2.1 4 (by decide)
      have g8_τ20 : τ20.2.1 8 = τ17.2.1 8 := hf_τ20.2.1 8 (by decide)
      have g10_τ20 : τ20.2.1 10 = τ17.2.1 10 := hf_τ20.2.1 10 (by decide)
      have g11_τ20 : τ20.2.1 11 = τ17.2.1 11 := hf_τ20.2.1 11 (by decide)
      have g13_τ20 : τ20.2.1 13 = τ17.2.1 13 := hf_τ20.2.1 13 (by decide)
      have g14_τ20 : τ20.2.1 14 = τ17.2.1 14 := hf_τ20.2.1 14 (by decide)
      have g15_τ20 : τ20.2.1 15 = τ17.2.1 15 := hf_τ20.2.1 15 (by decide)
      have g16_τ20 : τ20.2.1 16 = τ17.2.1 16 := hf_τ20.2.1 16 (by decide)
      have g27_τ20 : τ20.2.1 27 = τ17.2.1 27 := hf_τ20.2.1 27 (by decide)
      have g28_τ20 : τ20.2.1 28 = τ17.2.1 28 := hf_τ20.2.1 28 (by decide)
      have g29_τ20 : τ20.2.1 29 = τ17.2.1 29 := hf_τ20.2.1 29 (by decide)
      have g30_τ20 : τ20.2.1 30 = τ17.2.1 30 := hf_τ20.2.1 30 (by decide)
      have g31_τ20 : τ20.2.1 31 = τ17.2.1 31 := hf_τ20.2.1 31 (by decide)
      have g32_τ20 : τ20.2.1 32 = τ17.2.1 32 := hf_τ20.2.1 32 (by decide)
      have g33_τ20 : τ20.2.1 33 = τ17.2.1 33 := hf_τ20.2.1 33 (by decide)
      have g34_τ20 : τ20.2.1 34 = τ17.2.1 34 := hf_τ20.2.1 34 (by decide)
      have g35_τ20 : τ20.2.1 35 = τ17.2.1 35 := hf_τ20.2.1 35 (by decide)
      have g36_τ20 : τ20.2.1 36 = τ17.2.1 36 := hf_τ20.2.1 36 (by decide)
      have g37_τ20 : τ20.2.1 37 = τ17.2.1 37 := hf_τ20.2.1 37 (by decide)
      have g39_τ20 : τ20.2.1 39 = τ17.2.1 39 := hf_τ20.2.1 39 (by decide)
      have g40_τ20 : τ20.2.1 40 = τ17.2.1 40 := hf_τ20.2.1 40 (by decide)
      have g41_τ20 : τ20.2.1 41 = τ17.2.1 41 := hf_τ20.2.1 41 (by decide)
      have g69_τ20 : τ20.2.1 69 = τ17.2.1 69 := hf_τ20.2.1 69 (by decide)
      have g70_τ20 : τ20.2.1 70 = τ17.2.1 70 := hf_τ20.2.1 70 (by decide)
      have g77_τ20 : τ20.2.1 77 = τ17.2.1 77 := hf_τ20.2.1 77 (by decide)
      have g78_τ20 : τ20.2.1 78 = τ17.2.1 78 := hf_τ20.2.1 78 (by decide)
      have g79_τ20 : τ20.2.1 79 = τ17.2.1 79 := hf_τ20.2.1 79 (by decide)
      have g84_τ20 : τ20.2.1 84 = τ17.2.1 84 := hf_τ20.2.1 84 (by decide)
      have g93_τ20 : τ20.2.1 93 = τ17.2.1 93 := hf_τ20.2.1 93 (by decide)
      have g94_τ20 : τ20.2.1 94 = τ17.2.1 94 := hf_τ20.2.1 94 (by decide)
      have g95_τ20 : τ20.2.1 95 = τ17.2.1 95 := hf_τ20.2.1 95 (by decide)
      have g97_τ20 : τ20.2.1 97 = τ17.2.1 97 := hf_τ20.2.1 97 (by decide)
      have g98_τ20 : τ20.2.1 98 = τ17.2.1 98 := hf_τ20.2.1 98 (by decide)
      have g99_τ20 : τ20.2.1 99 = τ17.2.1 99 := hf_τ20.2.1 99 (by decide)
      have W3 : τ20.1 3 = σ.1 3 := by first | exact w3_τ20.trans W3 | omega
      have W4 : τ20.1 4 = σ.1 4 := by first | exact w4_τ20.trans W4 | omega
      have W5 : τ20.1 5 = σ.1 5 := by first | exact w5_τ20.trans W5 | omega
      have W6 : τ20.1 6 = σ.1 6 := by first | exact w6_τ20.trans W6 | omega
      have W7 : τ20.1 7 = σ.1 7 := by first | exact w7_τ20.trans W7 | omega
      have W13 : τ20.1 13 = σ.1 13 := by first | exact w13_τ20.trans W13 | omega
      have W14 : τ20.1 14 = σ.1 14 := by first | exact w14_τ20.trans W14 | omega
      have W15 : τ20.1 15 = σ.1 15 := by first | exact w15_τ20.trans W15 | omega
      have W45 : τ20.1 45 = σ.1 45 := by first | exact w45_τ20.trans W45 | omega
      have W48 : τ20.1 48 = σ.1 48 := by first | exact w48_τ20.trans W48 | omega
      have W49 : τ20.1 49 = σ.1 49 := by first | exact w49_τ20.trans W49 | omega
      have W50 : τ20.1 50 = σ.1 50 := by first | exact w50_τ20.trans W50 | omega
      have W51 : τ20.1 51 = σ.1 51 := by first | exact w51_τ20.trans W51 | omega
      have W52 : τ20.1 52 = σ.1 52 := by first | exact w52_τ20.trans W52 | omega
      have W57 : τ20.1 57 = σ.1 57 := by first | exact w57_τ20.trans W57 | omega
      have W59 : τ20.1 59 = σ.1 59 := by first | exact w59_τ20.trans W59 | omega
      have G2 : τ20.2.1 2 = σ.2.1 2 := (g2_τ20).trans G2
      have G3 : τ20.2.1 3 = σ.2.1 3 := (g3_τ20).trans G3
      have G4 : τ20.2.1 4 = σ.2.1 4 := (g4_τ20).trans G4
      have G8 : τ20.2.1 8 = σ.2.1 8 := (g8_τ20).trans G8
      have G10 : τ20.2.1 10 = σ.2.1 10 := (g10_τ20).trans G10
      have G11 : τ20.2.1 11 = σ.2.1 11 := (g11_τ20).trans G11
      have G13 : τ20.2.1 13 = σ.2.1 13 := (g13_τ20).trans G13
      have G14 : τ20.2.1 14 = σ.2.1 14 := (g14_τ20).trans G14
      have G15 : τ20.2.1 15 = σ.2.1 15 := (g15_τ20).trans G15
      have G16 : τ20.2.1 16 = σ.2.1 16 := (g16_τ20).trans G16
      have G27 : τ20.2.1 27 = σ.2.1 27 := (g27_τ20).trans G27
      have G28 : τ20.2.1 28 = σ.2.1 28 := (g28_τ20).trans G28
      have G29 : τ20.2.1 29 = σ.2.1 29 := (g29_τ20).trans G29
      have G30 : τ20.2.1 30 = σ.2.1 30 := (g30_τ20).trans G30
      have G31 : τ20.2.1 31 = σ.2.1 31 := (g31_τ20).trans G31
      have G32 : τ20.2.1 32 = σ.2.1 32 := (g32_τ20).trans G32
      have G33 : τ20.2.1 33 = σ.2.1 33 := (g33_τ20).trans G33
      have G34 : τ20.2.1 34 = σ.2.1 34 := (g34_τ20).trans G34
      have G35 : τ20.2.1 35 = σ.2.1 35 := (g35_τ20).trans G35
      have G36 : τ20.2.1 36 = σ.2.1 36 := (g36_τ20).trans G36
      have G37 : τ20.2.1 37 = σ.2.1 37 := (g37_τ20).trans G37
      have G69 : τ20.2.1 69 = σ.2.1 69 := (g69_τ20).trans G69
      have G70 : τ20.2.1 70 = σ.2.1 70 := (g70_τ20).trans G70
      have G77 : τ20.2.1 77 = σ.2.1 77 := (g77_τ20).trans G77
      have G78 : τ20.2.1 78 = σ.2.1 78 := (g78_τ20).trans G78
      have G79 : τ20.2.1 79 = σ.2.1 79 := (g79_τ20).trans G79
      have G93 : τ20.2.1 93 = σ.2.1 93 := (g93_τ20).trans G93
      have G94 : τ20.2.1 94 = σ.2.1 94 := (g94_τ20).trans G94
      have y10_49_τ20 : τ20.2.1 10 (τ20.1 49) = (τ17.2.1 10) (τ17.1 49) := by rw [g10_τ20, w49_τ20]
      have TX : J_vs (τ20.1 6) (τ20.1 5) (τ20.2.1 15) := by rw [show (J_vs (τ20.1 6) (τ20.1 5) (τ20.2.1 15)) = (J_vs (τ17.1 6) (τ17.1 5) (τ17.2.1 15)) from by rw [w5_τ20, w6_τ20, g15_τ20]]; exact TX
      have RKS : J_rks (τ20.1 5) (τ20.1 4) (τ20.2.1 10) (τ20.2.1 11) := by rw [show (J_rks (τ20.1 5) (τ20.1 4) (τ20.2.1 10) (τ20.2.1 11)) = (J_rks (τ17.1 5) (τ17.1 4) (τ17.2.1 10) (τ17.2.1 11)) from by rw [w4_τ20, w5_τ20, g10_τ20, g11_τ20]]; exact RKS
      have CJ : J_all (τ20.1 7) (τ20.1 6) (τ20.1 13) (τ20.1 14) (τ20.1 15) (τ20.2.1 13) (τ20.2.1 14) (τ20.2.1 15) (τ20.2.1 16) (τ20.2.1 10) (τ20.2.1 27) (τ20.2.1 28) (τ20.2.1 29) (τ20.2.1 30) (τ20.2.1 31) (τ20.2.1 32) (τ20.2.1 33) (τ20.2.1 34) (τ20.2.1 35) (τ20.2.1 36) (τ20.2.1 37) := by rw [show (J_all (τ20.1 7) (τ20.1 6) (τ20.1 13) (τ20.1 14) (τ20.1 15) (τ20.2.1 13) (τ20.2.1 14) (τ20.2.1 15) (τ20.2.1 16) (τ20.2.1 10) (τ20.2.1 27) (τ20.2.1 28) (τ20.2.1 29) (τ20.2.1 30) (τ20.2.1 31) (τ20.2.1 32) (τ20.2.1 33) (τ20.2.1 34) (τ20.2.1 35) (τ20.2.1 36) (τ20.2.1 37)) = (J_all (τ17.1 7) (τ17.1 6) (τ17.1 13) (τ17.1 14) (τ17.1 15) (τ17.2.1 13) (τ17.2.1 14) (τ17.2.1 15) (τ17.2.1 16) (τ17.2.1 10) (τ17.2.1 27) (τ17.2.1 28) (τ17.2.1 29) (τ17.2.1 30) (τ17.2.1 31) (τ17.2.1 32) (τ17.2.1 33) (τ17.2.1 34) (τ17.2.1 35) (τ17.2.1 36) (τ17.2.1 37)) from by rw [w6_τ20, w7_τ20, w13_τ20, w14_τ20, w15_τ20, g10_τ20, g13_τ20, g14_τ20, g15_τ20, g16_τ20, g27_τ20, g28_τ20, g29_τ20, g30_τ20, g31_τ20, g32_τ20, g33_τ20, g34_τ20, g35_τ20, g36_τ20, g37_τ20]]; exact CJ
      have TRE : g_tre (τ20.1 7) (τ20.1 54) (τ20.2.1 13) (τ20.2.1 14) (τ20.2.1 27) (τ20.2.1 28) (τ20.2.1 29) (τ20.2.1 84) := by rw [show (g_tre (τ20.1 7) (τ20.1 54) (τ20.2.1 13) (τ20.2.1 14) (τ20.2.1 27) (τ20.2.1 28) (τ20.2.1 29) (τ20.2.1 84)) = (g_tre (τ17.1 7) (τ17.1 54) (τ17.2.1 13) (τ17.2.1 14) (τ17.2.1 27) (τ17.2.1 28) (τ17.2.1 29) (τ17.2.1 84)) from by rw [w7_τ20, w54_τ20, g13_τ20, g14_τ20, g27_τ20, g28_τ20, g29_τ20, g84_τ20]]; exact TRE
      have A2 : ∀ j, 0 ≤ τ20.2.1 2 j ∧ τ20.2.1 2 j ≤ 65535 := fun j => hT.2 2 j
      have A3 : ∀ j, 0 ≤ τ20.2.1 3 j ∧ τ20.2.1 3 j ≤ 30000 := fun j => hT.2 3 j
      have A4 : ∀ j, (-1000) ≤ τ20.2.1 4 j ∧ τ20.2.1 4 j ≤ 1499 := fun j => hT.2 4 j
      have A8 : ∀ j, 0 ≤ τ20.2.1 8 j ∧ τ20.2.1 8 j ≤ 1 := fun j => hT.2 8 j
      have A10 : ∀ j, (-1) ≤ τ20.2.1 10 j ∧ τ20.2.1 10 j ≤ 99 := fun j => hT.2 10 j
      have A11 : ∀ j, 0 ≤ τ20.2.1 11 j ∧ τ20.2.1 11 j ≤ 999 := fun j => hT.2 11 j
      have A13 : ∀ j, 0 ≤ τ20.2.1 13 j ∧ τ20.2.1 13 j ≤ 4 := fun j => hT.2 13 j
      have A14 : ∀ j, 0 ≤ τ20.2.1 14 j ∧ τ20.2.1 14 j ≤ 30000 := fun j => hT.2 14 j
      have A15 : ∀ j, 0 ≤ τ20.2.1 15 j ∧ τ20.2.1 15 j ≤ 999 := fun j => hT.2 15 j
      have A16 : ∀ j, (-1) ≤ τ20.2.1 16 j ∧ τ20.2.1 16 j ≤ 1499 := fun j => hT.2 16 j
      have A27 : ∀ j, 0 ≤ τ20.2.1 27 j ∧ τ20.2.1 27 j ≤ 90000 := fun j => hT.2 27 j
      have A28 : ∀ j, 0 ≤ τ20.2.1 28 j ∧ τ20.2.1 28 j ≤ 60 := fun j => hT.2 28 j
      have A29 : ∀ j, 0 ≤ τ20.2.1 29 j ∧ τ20.2.1 29 j ≤ 1499 := fun j => hT.2 29 j
      have A30 : ∀ j, 0 ≤ τ20.2.1 30 j ∧ τ20.2.1 30 j ≤ 20000 := fun j => hT.2 30 j
      have A31 : ∀ j, 0 ≤ τ20.2.1 31 j ∧ τ20.2.1 31 j ≤ 20000 := fun j => hT.2 31 j
      have A32 : ∀ j, 0 ≤ τ20.2.1 32 j ∧ τ20.2.1 32 j ≤ 999999 := fun j => hT.2 32 j
      have A33 : ∀ j, 0 ≤ τ20.2.1 33 j ∧ τ20.2.1 33 j ≤ 20000 := fun j => hT.2 33 j
      have A34 : ∀ j, 0 ≤ τ20.2.1 34 j ∧ τ20.2.1 34 j ≤ 20000 := fun j => hT.2 34 j
      have A35 : ∀ j, 0 ≤ τ20.2.1 35 j ∧ τ20.2.1 35 j ≤ 1499 := fun j => hT.2 35 j
      have A36 : ∀ j, 0 ≤ τ20.2.1 36 j ∧ τ20.2.1 36 j ≤ 20000 := fun j => hT.2 36 j
      have A37 : ∀ j, 0 ≤ τ20.2.1 37 j ∧ τ20.2.1 37 j ≤ 19999 := fun j => hT.2 37 j
      have A39 : ∀ j, 0 ≤ τ20.2.1 39 j ∧ τ20.2.1 39 j ≤ 1060 := fun j => hT.2 39 j
      have A40 : ∀ j, 0 ≤ τ20.2.1 40 j ∧ τ20.2.1 40 j ≤ 42000 := fun j => hT.2 40 j
      have A41 : ∀ j, (-2) ≤ τ20.2.1 41 j ∧ τ20.2.1 41 j ≤ 1000 := fun j => hT.2 41 j
      have A69 : ∀ j, (-100) ≤ τ20.2.1 69 j ∧ τ20.2.1 69 j ≤ 999 := fun j => hT.2 69 j
      have A70 : ∀ j, 0 ≤ τ20.2.1 70 j ∧ τ20.2.1 70 j ≤ 1499 := fun j => hT.2 70 j
      have A77 : ∀ j, 0 ≤ τ20.2.1 77 j ∧ τ20.2.1 77 j ≤ 999 := fun j => hT.2 77 j
      have A78 : ∀ j, (-1) ≤ τ20.2.1 78 j ∧ τ20.2.1 78 j ≤ 1499 := fun j => hT.2 78 j
      have A79 : ∀ j, 0 ≤ τ20.2.1 79 j ∧ τ20.2.1 79 j ≤ 1499 := fun j => hT.2 79 j
      have A84 : ∀ j, 0 ≤ τ20.2.1 84 j ∧ τ20.2.1 84 j ≤ 1499 := fun j => hT.2 84 j
      have A93 : ∀ j, 0 ≤ τ20.2.1 93 j ∧ τ20.2.1 93 j ≤ 1500 := fun j => hT.2 93 j
      have A94 : ∀ j, 0 ≤ τ20.2.1 94 j ∧ τ20.2.1 94 j ≤ 1500 := fun j => hT.2 94 j
      have A95 : ∀ j, 0 ≤ τ20.2.1 95 j ∧ τ20.2.1 95 j ≤ 1500 := fun j => hT.2 95 j
      have A97 : ∀ j, 0 ≤ τ20.2.1 97 j ∧ τ20.2.1 97 j ≤ 1060 := fun j => hT.2 97 j
      have A98 : ∀ j, 0 ≤ τ20.2.1 98 j ∧ τ20.2.1 98 j ≤ 1048576 := fun j => hT.2 98 j
      have A99 : ∀ j, (-2) ≤ τ20.2.1 99 j ∧ τ20.2.1 99 j ≤ 600 := fun j => hT.2 99 j
      have A100 : ∀ j, 0 ≤ τ20.2.1 100 j ∧ τ20.2.1 100 j ≤ 1060 := fun j => hT.2 100 j
      have v3 : 0 ≤ τ20.1 3 ∧ τ20.1 3 ≤ 2500 := hT.1 3
      have v4 : 0 ≤ τ20.1 4 ∧ τ20.1 4 ≤ 100 := hT.1 4
      have v5 : 0 ≤ τ20.1 5 ∧ τ20.1 5 ≤ 1000 := hT.1 5
      have v6 : 0 ≤ τ20.1 6 ∧ τ20.1 6 ≤ 30000 := hT.1 6
      have v7 : 0 ≤ τ20.1 7 ∧ τ20.1 7 ≤ 1500 := hT.1 7
      have v13 : 0 ≤ τ20.1 13 ∧ τ20.1 13 ≤ 90000 := hT.1 13
      have v14 : 0 ≤ τ20.1 14 ∧ τ20.1 14 ≤ 20000 := hT.1 14
      have v15 : 0 ≤ τ20.1 15 ∧ τ20.1 15 ≤ 20000 := hT.1 15
      have v17 : 0 ≤ τ20.1 17 ∧ τ20.1 17 ≤ 42000 := hT.1 17
      have v45 : 1 ≤ τ20.1 45 ∧ τ20.1 45 ≤ 30001 := hT.1 45
      have v48 : (-1) ≤ τ20.1 48 ∧ τ20.1 48 ≤ 999 := hT.1 48
      have v49 : (-1) ≤ τ20.1 49 ∧ τ20.1 49 ≤ 999 := hT.1 49
      have v50 : 0 ≤ τ20.1 50 ∧ τ20.1 50 ≤ 59 := hT.1 50
      have v51 : 0 ≤ τ20.1 51 ∧ τ20.1 51 ≤ 1500 := hT.1 51
      have v52 : (-1) ≤ τ20.1 52 ∧ τ20.1 52 ≤ 99 := hT.1 52
      have v54 : 0 ≤ τ20.1 54 ∧ τ20.1 54 ≤ 12000 := hT.1 54
      have v57 : 0 ≤ τ20.1 57 ∧ τ20.1 57 ≤ 1500 := hT.1 57
      have v59 : 0 ≤ τ20.1 59 ∧ τ20.1 59 ≤ 1500 := hT.1 59
      have v60 : 0 ≤ τ20.1 60 ∧ τ20.1 60 ≤ 1048576 := hT.1 60
      have v61 : 0 ≤ τ20.1 61 ∧ τ20.1 61 ≤ 12000 := hT.1 61
      have v62 : 0 ≤ τ20.1 62 ∧ τ20.1 62 ≤ 12000 := hT.1 62
      have v200 : 16384 ≤ τ20.1 200 ∧ τ20.1 200 ≤ 1048576 := hT.1 200
      have a10_49 : (-1) ≤ τ20.2.1 10 (τ20.1 49) ∧ τ20.2.1 10 (τ20.1 49) ≤ 99 := hT.2 10 _
      have e200 : τ20.1 200 = σ.1 200 := by omega
      have ds20 : c_DS In τ20 := c_DS_q p9 W3 W7 W57 (fun k hk => by simp only [List.mem_cons, List.mem_nil_iff, or_false] at hk; rcases hk with rfl | rfl | rfl | rfl | rfl | rfl | rfl | rfl | rfl | rfl | rfl | rfl <;> assumption) G93 G94 q18_1
      have g95s : τ20.2.1 95 = σ.2.1 95 := by rw [g95_τ20, g95_τ17, g95_τ10, g95_τ6, g95_τ3]
      have g97s : τ20.2.1 97 = σ.2.1 97 := by rw [g97_τ20, g97_τ17, g97_τ10, g97_τ6, g97_τ3]
      have g98s : τ20.2.1 98 = σ.2.1 98 := by rw [g98_τ20, g98_τ17, g98_τ10, g98_τ6, g98_τ3]
      have g99s : τ20.2.1 99 = σ.2.1 99 := by rw [g99_τ20, g99_τ17, g99_τ10, g99_τ6, g99_τ3]
      have db20 : c_DB (L2 τ20) τ20 := c_DB_q p10 W7 W57 W59 (by omega) G28 g95s (fun k _ _ => by rw [g97s]) (fun j => (hT0.2 98 j).1) g98s g99s (by rw [L2_e e200]; exact Nat.le_refl _)
      have rs20 := c_Rs_h (c_Rs_h (c_Rs_h (c_Rs_h (c_Rs_h p6 hf_τ3 rfl) hf_τ6 rfl) hf_τ10 rfl) hf_τ17 rfl) hf_τ20 rfl
      have wz20 := c_WZ_h (c_WZ_h (c_WZ_h (c_WZ_h (c_WZ_h p8 hf_τ3 rfl rfl rfl) hf_τ6 rfl rfl rfl) hf_τ10 rfl rfl rfl) hf_τ17 rfl rfl rfl) hf_τ20 rfl rfl rfl
      have l720 : c_l7 (τ20.1 200) := by rw [e200]; exact p18
      have li20 := L2_i (σ := τ20) v200.1
      refine ⟨(show 0 ≤ n2 ∧ n2 < 1500 from by (first | omega | (simp only [st_s] <;> omega) | assumption | omega | fail)), ?_⟩
      refine ⟨(⟨by (first | omega | (simp only [st_s] <;> omega) | assumption | omega | fail), by (first | omega | (simp only [st_s] <;> omega) | assumption | omega | fail)⟩ : rg (n1 + 1)), ?_⟩
      replace hT := cT_a (k := 95) (j := n2) hT (show (0 : Int) ≤ (n1 + 1) ∧ (n1 + 1) ≤ 1500 from by (first | omega | (simp only [st_s] <;> omega) | assumption | omega | fail))
      replace hT := cT_a (k := 99) (j := n2) hT (show (-2 : Int) ≤ (-2) ∧ (-2) ≤ 600 from by (first | omega | (simp only [st_s] <;> omega) | assumption | omega | fail))
      refine ⟨fun c23 => ?_, fun c23 => ?_⟩
      ·
        intro x24 r_x24 e_x24
        have b_x24 : (-2) ≤ x24 ∧ x24 ≤ 1000 := by rw [e_x24]; exact hT.2 41 _
        have db2 := db20.2.1
        have db21 : c_DB (L2 τ20) (s_a (s_a τ20 95 n2 (n1 + 1)) 99 n2 (-2)) := c_DB_f db20 rfl rfl rfl rfl rfl rfl rfl rfl rfl (by omega)
        have ev1 := ev (by assumption)
        have ev2 := (q15_2 (by assumption)).2
        have e24 : x24 = τ17.2.1 41 0 := by rw [e_x24, g41_τ20]
        rw [← e24] at ev1 ev2
        have ev3 := ev1.2.2.resolve_left (by omega)
        have ev4 := ev3.2.1
        have ev5 := (q15_2 (by assumption)).1.1
        have ev6 := ev1.1
        have ev7 := ev3.1
        have a40 : τ20.2.1 40 = τ17.2.1 40 := g40_τ20
        have a39 : τ20.2.1 39 = τ17.2.1 39 := g39_τ20
        refine ⟨(⟨by (first | omega | (simp only [st_s] <;> omega) | assumption | omega | fail), by (first | omega | (simp only [st_s] <;> omega) | assumption | omega | fail)⟩ : rg (τ20.1 60 + x24)), ?_⟩
        refine ⟨fun c26 => ?_, fun c26 => ?_⟩
        ·
          exact l_115 _ _ _ hT (show τ20.1 3 = σ.1 3 from by first | exact W3 | omega) (show τ20.1 4 = σ.1 4 from by first | exact W4 | omega) (show τ20.1 5 = σ.1 5 from by first | exact W5 | omega) (show τ20.1 6 = σ.1 6 from by first | exact W6 | omega) (show τ20.1 7 = σ.1 7 from by first | exact W7 | omega) (show τ20.1 13 = σ.1 13 from by first | exact W13 | omega) (show τ20.1 14 = σ.1 14 from by first | exact W14 | omega) (show τ20.1 15 = σ.1 15 from by first | exact W15 | omega) (show τ20.1 45 = σ.1 45 from by first | exact W45 | omega) (show τ20.1 48 = σ.1 48 from by first | exact W48 | omega) (show τ20.1 49 = σ.1 49 from by first | exact W49 | omega) (show τ20.1 50 = σ.1 50 from by first | exact W50 | omega) (show τ20.1 51 = σ.1 51 from by first | exact W51 | omega) (show τ20.1 52 = σ.1 52 from by first | exact W52 | omega) (show τ20.1 57 = σ.1 57 from by first | exact W57 | omega) (show τ20.1 59 = σ.1 59 from by first | exact W59 | omega) G2 G3 G4 G8 G10 G11 G13 G14 G15 G16 G27 G28 G29 G30 G31 G32 G33 G34 G35 G36 G37 G69 G70 G77 G78 G79 G93 G94 (show 0 ≤ n2 ∧ n2 < (σ.1 7) from by (first | omega | (simp only [st_s] <;> omega) | assumption | omega | fail)) (show 0 ≤ x24 ∧ x24 ≤ 599 from by (first | omega | (simp only [st_s] <;> omega) | assumption | omega | fail)) (show (σ.1 60) + x24 ≤ τ20.1 200 from by omega) (show (τ20.1 60) = (σ.1 60) from by (first | omega | (simp only [st_s] <;> omega) | assumption | omega | fail)) (show c_DB (L2 (s_a (s_a τ20 95 n2 (n1 + 1)) 99 n2 (-2))) (s_a (s_a τ20 95 n2 (n1 + 1)) 99 n2 (-2)) from by (first | exact db21 | exact c_DB_q db21 rfl rfl rfl rfl rfl rfl (fun k k0 k1 => c_gr_o k0 (by have : k < τ20.1 60 := k1; omega)) (fun j => (hT.2 98 j).1) rfl rfl (by show (τ20.1 200).toNat ≤ (2 * τ20.1 200).toNat; omega) | fail)) (show c_DS In (s_a (s_a τ20 95 n2 (n1 + 1)) 99 n2 (-2)) from by exact ds20) (show 0 ≤ τ20.2.1 40 0 ∧ τ20.2.1 40 0 + x24 ≤ 42000 from by (rw [a40]; omega)) (show ∀ j : Int, τ20.2.1 40 0 ≤ j → j < τ20.2.1 40 0 + x24 → τ20.2.1 39 j < 1000 + σ.2.1 28 n2 from by (rw [a40, a39]; intro j j0 j1; have w := ev3.2.2.2 j j0 j1; omega)) (show c_Rs (s_a (s_a τ20 95 n2 (n1 + 1)) 99 n2 (-2)) par nof In from by exact rs20) (show c_WZ (s_a (s_a τ20 95 n2 (n1 + 1)) 99 n2 (-2)) from by exact wz20) (show c_l7 (τ20.1 200) from by (first | exact l720 | exact (c_l7_2 l720 (by assumption) (by omega)).2 | fail))
        ·
          have c27x := (c_l7_2 l720 (by assumption) (by omega)).1
          refine ⟨(show 2 * τ20.1 200 ≤ 1048576 from by (first | omega | (simp only [st_s] <;> omega) | assumption | omega | fail)), ?_⟩
          replace hT := cT_f (k := 97) (f := (c_gr (L2 τ20) (τ20.2.1 97))) hT (by first | exact cpy_r (lo := fun _ => (0 : Int)) (hi := fun _ => (1060 : Int)) A39 A97 (fun _ => rfl) (fun _ => rfl) | exact cpy_r (lo := fun _ => (0 : Int)) (hi := fun _ => (1060 : Int)) A97 (fun _ => by decide) (fun _ => rfl) (fun _ => rfl))
          replace hT := cT_v (i := 200) hT (show 16384 ≤ (2 * τ20.1 200) ∧ (2 * τ20.1 200) ≤ 1048576 from by (first | omega | (simp only [st_s] <;> omega) | assumption | omega | fail))
          exact l_115 _ _ _ hT (show τ20.1 3 = σ.1 3 from by first | exact W3 | omega) (show τ20.1 4 = σ.1 4 from by first | exact W4 | omega) (show τ20.1 5 = σ.1 5 from by first | exact W5 | omega) (show τ20.1 6 = σ.1 6 from by first | exact W6 | omega) (show τ20.1 7 = σ.1 7 from by first | exact W7 | omega) (show τ20.1 13 = σ.1 13 from by first | exact W13 | omega) (show τ20.1 14 = σ.1 14 from by first | exact W14 | omega) (show τ20.1 15 = σ.1 15 from by first | exact W15 | omega) (show τ20.1 45 = σ.1 45 from by first | exact W45 | omega) (show τ20.1 48 = σ.1 48 from by first | exact W48 | omega) (show τ20.1 49 = σ.1 49 from by first | exact W49 | omega) (show τ20.1 50 = σ.1 50 from by first | exact W50 | omega) (show τ20.1 51 = σ.1 51 from by first | exact W51 | omega) (show τ20.1 52 = σ.1 52 from by first | exact W52 | omega) (show τ20.1 57 = σ.1 57 from by first | exact W57 | omega) (show τ20.1 59 = σ.1 59 from by first | exact W59 | omega) G2 G3 G4 G8 G10 G11 G13 G14 G15 G16 G27 G28 G29 G30 G31 G32 G33 G34 G35 G36 G37 G69 G70 G77 G78 G79 G93 G94 (show 0 ≤ n2 ∧ n2 < (σ.1 7) from by (first | omega | (simp only [st_s] <;> omega) | assumption | omega | fail)) (show 0 ≤ x24 ∧ x24 ≤ 599 from by (first | omega | (simp only [st_s] <;> omega) | assumption | omega | fail)) (show (σ.1 60) + x24 ≤ (2 * τ20.1 200) from by omega) (show (τ20.1 60) = (σ.1 60) from by (first | omega | (simp only [st_s] <;> omega) | assumption | omega | fail)) (show c_DB (L2 (s_v (s_f (s_a (s_a τ20 95 n2 (n1 + 1)) 99 n2 (-2)) 97 (c_gr (L2 τ20) (τ20.2.1 97))) 200 (2 * τ20.1 200))) (s_v (s_f (s_a (s_a τ20 95 n2 (n1 + 1)) 99 n2 (-2)) 97 (c_gr (L2 τ20) (τ20.2.1 97))) 200 (2 * τ20.1 200)) from by (first | exact db21 | exact c_DB_q db21 rfl rfl rfl rfl rfl rfl (fun k k0 k1 => c_gr_o k0 (by have : k < τ20.1 60 := k1; omega)) (fun j => (hT.2 98 j).1) rfl rfl (by show (τ20.1 200).toNat ≤ (2 * τ20.1 200).toNat; omega) | fail)) (show c_DS In (s_v (s_f (s_a (s_a τ20 95 n2 (n1 + 1)) 99 n2 (-2)) 97 (c_gr (L2 τ20) (τ20.2.1 97))) 200 (2 * τ20.1 200)) from by exact ds20) (show 0 ≤ τ20.2.1 40 0 ∧ τ20.2.1 40 0 + x24 ≤ 42000 from by (rw [a40]; omega)) (show ∀ j : Int, τ20.2.1 40 0 ≤ j → j < τ20.2.1 40 0 + x24 → τ20.2.1 39 j < 1000 + σ.2.1 28 n2 from by (rw [a40, a39]; intro j j0 j1; have w := ev3.2.2.2 j j0 j1; omega)) (show c_Rs (s_v (s_f (s_a (s_a τ20 95 n2 (n1 + 1)) 99 n2 (-2)) 97 (c_gr (L2 τ20) (τ20.2.1 97))) 200 (2 * τ20.1 200)) par nof In from by exact rs20) (show c_WZ (s_v (s_f (s_a (s_a τ20 95 n2 (n1 + 1)) 99 n2 (-2)) 97 (c_gr (L2 τ20) (τ20.2.1 97))) 200 (2 * τ20.1 200)) from by exact wz20) (show c_l7 ((2 * τ20.1 200)) from by (first | exact l720 | exact (c_l7_2 l720 (by assumption) (by omega)).2 | fail))
      ·
        exact ⟨hT, (show c_Rs (s_a (s_a τ20 95 n2 (n1 + 1)) 99 n2 (-2)) par nof In from by (first | (exfalso; omega) | exact rs20 | exact i115_9 | fail)), (show c_WZ (s_a (s_a τ20 95 n2 (n1 + 1)) 99 n2 (-2)) from by (first | (exfalso; omega) | exact wz20 | exact i115_10 | fail)), (show c_DS In (s_a (s_a τ20 95 n2 (n1 + 1)) 99 n2 (-2)) from by (first | (exfalso; omega) | exact ds20 | exact i115_6 | fail)), (show c_DB (L2 (s_a (s_a τ20 95 n2 (n1 + 1)) 99 n2 (-2))) (s_a (s_a τ20 95 n2 (n1 + 1)) 99 n2 (-2)) from by (first | (exfalso; omega) | exact c_DB_f db20 rfl rfl rfl rfl rfl rfl rfl rfl rfl (by omega) | exact c_DB_n (d := u2_115) (n := u4_115) i115_5 rfl rfl rfl rfl rfl rfl (fun k k0 k1 => cpy_o (show k < τ_115.1 60 from k1)) (fun k k0 k1 => by rw [show (τ_115.2.1 28 : Int → Int) = σ.2.1 28 from G28]; have w := i115_8 (x29 + (k - τ_115.1 60)) (by omega) (by omega); rw [← cpy_i (f := τ_115.2.1 39) (h := τ_115.2.1 97) (sp := x29) (n := u4_115) k0 k1] at w; exact w) rfl rfl (by omega) (fun j => (A98 j).1) (by show τ_115.1 60 + u4_115 ≤ ((τ_115.1 200).toNat : Int); omega) | fail)), (show c_l7 (τ20.1 200) from by (first | (exfalso; omega) | exact l720 | exact i115_11 | fail)), (show (τ20.1 60) ≤ (σ.1 60) + 599 from by (first | omega | (simp only [st_s] <;> omega) | assumption | omega | fail))⟩
    ·
      exact ⟨hT, (show c_Rs τ10 par nof In from by (first | (exfalso; omega) | exact rs20 | exact i115_9 | fail)), (show c_WZ τ10 from by (first | (exfalso; omega) | exact wz20 | exact i115_10 | fail)), (show c_DS In τ10 from by (first | (exfalso; omega) | exact ds20 | exact i115_6 | fail)), (show c_DB (L2 τ10) τ10 from by (first | (exfalso; omega) | exact c_DB_f db20 rfl rfl rfl rfl rfl rfl rfl rfl rfl (by omega) | exact c_DB_n (d := u2_115) (n := u4_115) i115_5 rfl rfl rfl rfl rfl rfl (fun k k0 k1 => cpy_o (show k < τ_115.1 60 from k1)) (fun k k0 k1 => by rw [show (τ_115.2.1 28 : Int → Int) = σ.2.1 28 from G28]; have w := i115_8 (x29 + (k - τ_115.1 60)) (by omega) (by omega); rw [← cpy_i (f := τ_115.2.1 39) (h := τ_115.2.1 97) (sp := x29) (n := u4_115) k0 k1] at w; exact w) rfl rfl (by omega) (fun j => (A98 j).1) (by show τ_115.1 60 + u4_115 ≤ ((τ_115.1 200).toNat : Int); omega) | fail)), (show c_l7 (τ10.1 200) from by (first | (exfalso; omega) | exact l720 | exact i115_11 | fail)), (show (τ10.1 60) ≤ (σ.1 60) + 599 from by (first | omega | (simp only [st_s] <;> omega) | assumption | omega | fail))⟩
