-- pure: what defines what
/-- the hypothesis of an equality's first variable -/
def y_FS (σ : S0) (e s : Int) : Prop := (0 ≤ s ∧ s < σ.2.1 19 e) ∧ ∃ m : Int, (0 ≤ m ∧ m < y_nn σ e) ∧ y_f σ e (m + 1) < 0 ∧ (∀ o : Int, 0 ≤ o → o < m → 0 ≤ y_f σ e (o + 1)) ∧ y_hv σ e s = y_sy σ e m
theorem y_FS_u {σ : S0} {e s t : Int} (J : n_J σ) (hT : m_T σ) (e0 : 0 ≤ e) (e5 : e < σ.1 5) (I : y_In σ e) (h : y_FS σ e s) (g : y_FS σ e t) : s = t := by
  obtain ⟨hs, m, hm, f1, f2, f3⟩ := h
  obtain ⟨gs, o, ho, g1, g2, g3⟩ := g
  have em : o = m := by
    rcases Int.lt_trichotomy o m with z | z | z
    · have := f2 o ho.1 z; omega
    · exact z
    · have := g2 m hm.1 z; omega
  subst em
  obtain ⟨_, _, h3, _⟩ := y_rh J hT e0 e5 I
  have e : y_hv σ e s = y_hv σ e t := f3.trans g3.symm
  rcases Int.lt_trichotomy s t with z | z | z
  · exact absurd e (h3 t s hs.1 z gs.2)
  · exact z
  · exact absurd e.symm (h3 s t gs.1 z hs.2)
/-- leaves below a node -/
def y_Lv (τ : S0) (d a v : Int) : Prop := ∃ k : Int, (0 ≤ k ∧ k < τ.2.1 19 d) ∧ τ.2.1 86 (τ.2.1 91 (τ.2.1 87 a + k)) = v
/-- nodes tell that a rule is defined -/
def y_DN (σ τ : S0) (lo hi d : Int) : Prop := ((0 ≤ τ.2.1 86 lo ∧ τ.2.1 86 lo < σ.1 5) ∧ y_In σ (τ.2.1 86 lo) ∧ σ.2.1 19 (τ.2.1 86 lo) = 2) ∧ ∃ s : Int, y_FS σ (τ.2.1 86 lo) s ∧ τ.2.1 86 (τ.2.1 91 (τ.2.1 87 lo + s)) = d ∧ ∃ Z : Int → Prop, y_PZ τ lo hi d (y_Lv τ d (τ.2.1 91 (τ.2.1 87 lo + s))) Z (fun _ => False) ∧ Z (τ.2.1 91 (τ.2.1 87 lo + (1 - s)))
/-- a statement defines a rule, whichever nodes hold its tree -/
def y_Df (σ : S0) (j d : Int) : Prop := (0 ≤ d ∧ d < j) ∧ y_In σ d ∧ ∀ (τ : S0) (lo hi : Int), m_T τ → y_TR σ τ j lo hi → y_DN σ τ lo hi d
theorem y_Df_mk {σ τ : S0} {j lo hi d : Int} (J : n_J σ) (hT : m_T σ) (hS : m_T τ) (j0 : 0 ≤ j) (j5 : j < σ.1 5) (h : y_TR σ τ j lo hi) (g : y_DN σ τ lo hi d) (d0 : 0 ≤ d) : y_Df σ j d := by
  obtain ⟨⟨ge0, ge1, ge2⟩, s, g1, g2, Z, g3, g4⟩ := g
  have lh := h.2.2.2.2.1
  have S19 : τ.2.1 19 = σ.2.1 19 := h.1.1.2.2.2.2.2.2.2.2.1
  have rr := y_TR_b J hT hS hS j0 j5 h h (Int.le_refl _) lh.1 (Int.le_refl _) lh.1 ⟨y_rt σ j, lh.2.1.1.symm, lh.2.1.1.symm, ⟨lh.2.2.1, by rw [h.1.2.1]; exact lh.2.2.2⟩, rfl, rfl⟩
  have kk := rr.2 ge0.1 s g1.1.1 g1.1.2
  have dn := y_TR_n J hT hS j0 j5 h (y := τ.2.1 91 (τ.2.1 87 lo + s)) (by omega) kk.1.2
  have dj : d < j ∧ y_In σ d := by
    obtain ⟨_, t, _, _, _, n⟩ := dn
    unfold y_tn at n
    rw [g2] at n
    rcases n with ⟨_, _, _, w⟩ | ⟨w, _⟩
    · omega
    · exact ⟨w.1.2, w.2.1⟩
  refine ⟨⟨d0, dj.1⟩, dj.2, fun υ lo' hi' hU g' => ?_⟩
  have S19' : υ.2.1 19 = σ.2.1 19 := g'.1.1.2.2.2.2.2.2.2.2.1
  have lg := g'.2.2.2.2.1
  have B := fun {y z : Int} (a : lo ≤ y) (b : y < hi) (c : lo' ≤ z) (e : z < hi') (f : y_sc τ υ y z) => y_TR_b J hT hS hU j0 j5 h g' a b c e f
  have r0 := B (Int.le_refl _) lh.1 (Int.le_refl _) lg.1 ⟨y_rt σ j, lh.2.1.1.symm, lg.2.1.1.symm, ⟨lh.2.2.1, by rw [h.1.2.1]; exact lh.2.2.2⟩, by rw [lh.2.1.2.1, lg.2.1.2.1], by rw [lh.2.1.2.2, lg.2.1.2.2]⟩
  have ka := r0.2 ge0.1 s g1.1.1 g1.1.2
  have kb := r0.2 ge0.1 (1 - s) (by have := g1.1; omega) (by have := g1.1; omega)
  have ra := B (by omega) ka.1.2 (by omega) ka.2.1.2 ka.2.2
  rw [g2] at ra
  have LV : ∀ v : Int, y_Lv τ d (τ.2.1 91 (τ.2.1 87 lo + s)) v → y_Lv υ d (υ.2.1 91 (υ.2.1 87 lo' + s)) v := fun v ⟨k, k1, k2⟩ => by
    rw [S19] at k1
    have q := ra.2 d0 k k1.1 k1.2
    have w := B (by omega) q.1.2 (by omega) q.2.1.2 q.2.2
    exact ⟨k, by rw [S19']; exact k1, w.1.trans k2⟩
  refine ⟨by rw [r0.1]; exact ⟨ge0, ge1, ge2⟩, s, by rw [r0.1]; exact g1, ra.1, fun z => ∃ y : Int, Z y ∧ (lo' ≤ z ∧ z < hi') ∧ y_sc τ υ y z, ?_, ?_⟩
  · rintro z ⟨y, zy, zr, c⟩
    obtain ⟨a1, a2, a3, a4⟩ := g3 y zy
    have b := B a1.1 a1.2 zr.1 zr.2 c
    refine ⟨zr, by rw [b.1]; exact a2, by rw [b.1]; exact fun q => LV _ (a3 q), ?_⟩
    rw [b.1, S19']
    intro q k k0 k1
    have w := b.2 q k k0 k1
    rcases a4 q k k0 (by rw [S19]; exact k1) with u | u
    · exact Or.inl ⟨_, u, ⟨by omega, w.2.1.2⟩, w.2.2⟩
    · exact u.elim
  · exact ⟨_, g4, ⟨by omega, kb.2.1.2⟩, kb.2.2⟩
/-- what statements are stays -/
def y_SF (σ τ : S0) : Prop := y_SD σ τ ∧ τ.1 3 = σ.1 3 ∧ τ.1 5 = σ.1 5 ∧ τ.1 10 = σ.1 10 ∧ τ.2.1 12 = σ.2.1 12 ∧ τ.2.1 17 = σ.2.1 17
theorem y_SF_h {σ τ : S0} {wv wa wb : List Nat} (hf : f_r wv wa wb σ τ) (d1 : [3, 5, 10, 11].all (fun i => !wv.contains i) = true) (d2 : [8, 10, 12, 13, 14, 15, 16, 17, 18, 19, 20].all (fun i => !wa.contains i) = true) : y_SF σ τ := by
  have V : ∀ i : Nat, i ∈ [3, 5, 10, 11] → τ.1 i = σ.1 i := fun i hi => hf.1 i (by simpa using List.all_eq_true.mp d1 i hi)
  have A : ∀ i : Nat, i ∈ [8, 10, 12, 13, 14, 15, 16, 17, 18, 19, 20] → τ.2.1 i = σ.2.1 i := fun i hi => hf.2.1 i (by simpa using List.all_eq_true.mp d2 i hi)
  exact ⟨⟨V 11 (by simp), A 8 (by simp), A 10 (by simp), A 13 (by simp), A 14 (by simp), A 15 (by simp), A 16 (by simp), A 18 (by simp), A 19 (by simp), A 20 (by simp)⟩, V 3 (by simp), V 5 (by simp), V 10 (by simp), A 12 (by simp), A 17 (by simp)⟩
theorem y_SF_t {σ τ υ : S0} (h : y_SF σ τ) (g : y_SF τ υ) : y_SF σ υ := ⟨y_SD_t h.1 g.1, g.2.1.trans h.2.1, g.2.2.1.trans h.2.2.1, g.2.2.2.1.trans h.2.2.2.1, g.2.2.2.2.1.trans h.2.2.2.2.1, g.2.2.2.2.2.trans h.2.2.2.2.2⟩
theorem y_SF_0 (σ : S0) : y_SF σ σ := ⟨⟨rfl, rfl, rfl, rfl, rfl, rfl, rfl, rfl, rfl, rfl⟩, rfl, rfl, rfl, rfl, rfl⟩
theorem y_Df_e {σ τ : S0} (SF : y_SF σ τ) : y_Df τ = y_Df σ := by
  obtain ⟨SD, e3, e5, e10, e12, e17⟩ := SF
  obtain ⟨_, E2, E3, E4, E5, _, _⟩ := y_SD_e SD
  obtain ⟨_, _, E8⟩ := y_Ti_e SD e10 e17
  obtain ⟨e11, e8, d10, e13, e14, e15, e16, e18, e19, e20⟩ := SD
  have a : y_SD τ = y_SD σ := by funext υ; unfold y_SD; rw [e11, e8, d10, e13, e14, e15, e16, e18, e19, e20]
  have b : y_LF τ = y_LF σ := by funext υ i; unfold y_LF; rw [e14, e15, e16, e17]
  have c : y_TR τ = y_TR σ := by funext υ i lo hi; unfold y_TR; rw [a, b, e3, e5, e12, e15, E8]
  have f : y_FS τ = y_FS σ := by funext e s; unfold y_FS y_hv y_sy; rw [E4, E5, e14, e16, e18, e19, e20]
  have g : y_DN τ = y_DN σ := by funext υ lo hi d; unfold y_DN; rw [e5, E2, e19, f]
  funext j d
  unfold y_Df
  rw [E2, c, g]
/-- what is counted stays -/
def y_KC (σ τ : S0) : Prop := ∀ s : Int, 0 ≤ s → ¬ σ.2.1 94 s = -1 → τ.2.1 94 s = σ.2.1 94 s ∧ ∀ w : Int, 24 * s ≤ w → w < 24 * s + 24 → τ.2.2 7 w = σ.2.2 7 w
theorem y_KC_0 (σ : S0) : y_KC σ σ := fun _ _ _ => ⟨rfl, fun _ _ _ => rfl⟩
theorem y_KC_t {σ τ υ : S0} (h : y_KC σ τ) (g : y_KC τ υ) : y_KC σ υ := fun s s0 z => by
  obtain ⟨a, b⟩ := h s s0 z
  obtain ⟨c, d⟩ := g s s0 (by rw [a]; exact z)
  exact ⟨c.trans a, fun w x y => (d w x y).trans (b w x y)⟩
theorem y_KC_e {σ τ : S0} (e94 : τ.2.1 94 = σ.2.1 94) (e7 : τ.2.2 7 = σ.2.2 7) : y_KC σ τ := fun s _ _ => ⟨by rw [e94], fun w _ _ => by rw [e7]⟩
theorem y_KC_c {σ τ : S0} {n : Int} (b7 : ∀ k : Int, ¬ (24 * n ≤ k ∧ k < 24 * n + 24) → τ.2.2 7 k = σ.2.2 7 k) (c8 : ∀ i : Int, ¬ i = n → τ.2.1 94 i = σ.2.1 94 i) (c9 : ¬ σ.2.1 94 n = -1 → τ = σ) : y_KC σ τ := fun s s0 z => by
  by_cases q : s = n
  · subst q
    rw [c9 z]
    exact ⟨rfl, fun _ _ _ => rfl⟩
  · exact ⟨c8 s q, fun w a b => b7 w (by omega)⟩
/-- a tree that is made again changes no count -/
theorem y_KC_o {σ τ : S0} {n c : Int} (e : τ.2.1 94 = st (σ.2.1 94) n c) (e7 : τ.2.2 7 = σ.2.2 7) (h : σ.2.1 94 n = c) : y_KC σ τ ∧ τ.2.1 94 = σ.2.1 94 := by
  have q : τ.2.1 94 = σ.2.1 94 := by
    rw [e]; funext i
    by_cases z : i = n
    · rw [z, st_s, h]
    · rw [st_n _ _ z]
  exact ⟨y_KC_e q e7, q⟩
theorem y_b7_k {f g : Int → Int64} {s d : Int} (e : ∀ w : Int, 24 * s ≤ w → w < 24 * s + 24 → g w = f w) (d0 : 0 ≤ d) (d1 : d < 1500) : y_b7 g s d ↔ y_b7 f s d := by
  unfold y_b7
  rw [e (24 * s + d / 64) (by omega) (by omega)]
/-- no statement before another one uses a rule -/
def y_UB (σ τ : S0) (u d : Int) : Prop := ∀ i : Int, 0 ≤ i → i < u → σ.2.1 16 (σ.2.1 14 i) = σ.1 11 → σ.2.1 15 i ≤ 60 → ¬ τ.2.1 94 i = -1 ∧ (τ.2.1 94 i = 1 → ¬ y_b7 (τ.2.2 7) i d)
theorem y_UB_k {σ τ υ : S0} {u d : Int} (h : y_UB σ τ u d) (k : y_KC τ υ) (d0 : 0 ≤ d) (d1 : d < 1500) : y_UB σ υ u d := fun i i0 i1 a b => by
  obtain ⟨x, y⟩ := h i i0 i1 a b
  obtain ⟨p, q⟩ := k i i0 x
  refine ⟨by rw [p]; exact x, fun z w => ?_⟩
  rw [p] at z
  exact y z ((y_b7_k q d0 d1).mp w)
theorem y_UB_n {σ τ : S0} {u d : Int} (h : y_UB σ τ u d) (g : σ.2.1 16 (σ.2.1 14 u) = σ.1 11 → σ.2.1 15 u ≤ 60 → ¬ τ.2.1 94 u = -1 ∧ (τ.2.1 94 u = 1 → ¬ y_b7 (τ.2.2 7) u d)) : y_UB σ τ (u + 1) d := fun i i0 i1 => by
  rcases (by omega : i < u ∨ i = u) with z | z
  · exact h i i0 z
  · rw [z]; exact g
theorem y_UB_s {σ τ υ : S0} {u d : Int} (h : y_UB σ υ u d) (SD : y_SD σ τ) : y_UB τ υ u d := fun i i0 i1 => by
  obtain ⟨e11, _, _, _, e14, e15, e16, _⟩ := SD
  rw [e11, e14, e15, e16]
  exact h i i0 i1
/-- what is kept of a definition -/
def y_DE (σ : S0) (j d : Int) : Prop := (σ.2.1 15 j ≤ 60 ∧ σ.2.1 94 j = 1 ∧ σ.2.1 16 (σ.2.1 14 j) = σ.1 11) ∧ y_Df σ j d ∧ y_UB σ σ j d
theorem y_DE_k {σ τ : S0} {j d : Int} (h : y_DE σ j d) (SF : y_SF σ τ) (k : y_KC σ τ) (j0 : 0 ≤ j) (j5 : j ≤ 1500) : y_DE τ j d := by
  obtain ⟨⟨a, b, c⟩, D, u⟩ := h
  have SD := SF.1
  obtain ⟨e11, _, _, _, e14, e15, e16, _⟩ := SF.1
  refine ⟨⟨by rw [e15]; exact a, by rw [(k j j0 (by omega)).1]; exact b, by rw [e11, e14, e16]; exact c⟩, by rw [y_Df_e SF]; exact D, ?_⟩
  exact y_UB_s (y_UB_k u k D.1.1 (by have := D.1.2; omega)) SD
/-- all definitions that are known -/
def y_DT (σ : S0) : Prop := ∀ j : Int, 0 ≤ j → j < σ.1 5 → ¬ σ.2.1 95 j = -9 → σ.2.1 95 j = -1 ∨ y_DE σ j (σ.2.1 95 j)
theorem y_DT_k {σ τ : S0} (h : y_DT σ) (hT : m_T σ) (SF : y_SF σ τ) (k : y_KC σ τ) (e95 : τ.2.1 95 = σ.2.1 95) : y_DT τ := fun j j0 j5 => by
  rw [e95]
  rw [SF.2.2.1] at j5
  have l5 : σ.1 5 ≤ 1500 := (hT.1 5).2
  intro z
  exact (h j j0 j5 z).imp id (fun w => y_DE_k w SF k j0 (by omega))
theorem y_DT_s {σ : S0} {n x : Int} (h : y_DT σ) (hT : m_T σ) (g : x = -1 ∨ y_DE σ n x) : y_DT (s_a σ 95 n x) := fun j j0 j5 => by
  have l5 : σ.1 5 ≤ 1500 := (hT.1 5).2
  have j5 : j < σ.1 5 := j5
  show ¬ st (σ.2.1 95) n x j = -9 → st (σ.2.1 95) n x j = -1 ∨ y_DE (s_a σ 95 n x) j (st (σ.2.1 95) n x j)
  have K : ∀ d : Int, y_DE σ j d → y_DE (s_a σ 95 n x) j d := fun d w => y_DE_k w ⟨⟨rfl, rfl, rfl, rfl, rfl, rfl, rfl, rfl, rfl, rfl⟩, rfl, rfl, rfl, rfl, rfl⟩ (y_KC_e rfl rfl) j0 (by omega)
  by_cases q : j = n
  · subst q
    rw [st_s]
    intro _
    exact g.imp id (K _)
  · rw [st_n _ _ q]
    intro z
    exact (h j j0 j5 z).imp id (K _)
theorem y_EQ_e {σ τ : S0} (h : y_EQ σ) (SD : y_SD σ τ) (e5 : τ.1 5 = σ.1 5) (e96 : τ.2.1 96 = σ.2.1 96) : y_EQ τ := by
  have q : y_vq τ = y_vq σ := by funext r k; unfold y_vq; rw [SD.2.1, SD.2.2.2.2.1, SD.2.2.2.2.2.2.1]
  unfold y_EQ
  rw [(y_SD_e SD).1, q, e5, SD.2.2.2.2.2.1, e96]
  exact h
/-- the nodes of a counted tree are rules that its bits tell -/
theorem y_TR_z {σ τ : S0} {i lo hi : Int} {f : Int → Int64} (J : n_J σ) (hT : m_T σ) (hS : m_T τ) (i0 : 0 ≤ i) (i5 : i < σ.1 5) (h : y_TR σ τ i lo hi) (Zi : y_Zi σ f i) : ∃ S : Int → Prop, S lo ∧ ∀ y : Int, S y → (lo ≤ y ∧ y < hi) ∧ (τ.2.1 86 y < 0 → ∃ p : Int, (0 ≤ p ∧ p < σ.2.1 15 i - 1) ∧ 0 ≤ y_lf σ i p ∧ τ.2.1 86 y = -1 - σ.2.1 17 (σ.2.1 14 i + 1 + p)) ∧ (0 ≤ τ.2.1 86 y → (y_b7 f i (τ.2.1 86 y) ∧ τ.2.1 86 y < i ∧ y_In σ (τ.2.1 86 y)) ∧ ∀ k : Int, 0 ≤ k → k < σ.2.1 19 (τ.2.1 86 y) → S (τ.2.1 91 (τ.2.1 87 y + k))) := by
  obtain ⟨row, ls, W, V, ρ, ⟨er, el⟩, ch, Z, ⟨len, zr⟩, zk⟩ := Zi
  have ch := y_CH_x (row2 := y_rw σ i) (ls2 := y_lf σ i) (fun k a b => (er k a b).symm) (fun k a b => (el k a b).symm) ch
  obtain ⟨ρ', cg⟩ := y_TR_ch J hT i0 i5 h
  have lh := h.2.2.2.2.1
  have e3 : τ.1 3 = σ.1 3 := h.1.2.1
  have inj : ∀ a b : Int, 0 ≤ a → a < b → b < σ.1 3 → 0 ≤ τ.2.1 71 a → τ.2.1 71 a ≠ τ.2.1 71 b := by
    have w := h.2.1
    obtain ⟨_, TC⟩ := w
    have x := TC.1.1.2.2.1.2
    rw [e3] at x; exact x
  have un := fun (t p q : Int) (a : 0 ≤ p) (b : p < q) (c : q ≤ σ.2.1 15 i - 1) => y_un y_nn1 ch cg (σ.2.1 15 i).toNat t p q a b c (by omega)
  refine ⟨fun y => (lo ≤ y ∧ y < hi) ∧ ∃ t : Int, (0 ≤ t ∧ t < σ.1 3) ∧ τ.2.1 71 t = τ.2.1 90 y ∧ Z t (τ.2.1 88 y) (τ.2.1 89 y), ⟨⟨Int.le_refl _, lh.1⟩, y_rt σ i, lh.2.2, lh.2.1.1.symm, by rw [lh.2.1.2.1, lh.2.1.2.2]; exact zr⟩, ?_⟩
  rintro y ⟨yr, s, s0, cs, zs⟩
  obtain ⟨⟨p0, pq, ql⟩, t, t0, ⟨ct, ct0⟩, ⟨cw, cv⟩, n⟩ := y_TR_n J hT hS i0 i5 h yr.1 yr.2
  have ts : t = s := by
    rcases Int.lt_trichotomy t s with w | w | w
    · exact absurd (ct.trans cs.symm) (inj _ _ t0.1 w s0.2 (by omega))
    · exact w
    · exact absurd (cs.trans ct.symm) (inj _ _ s0.1 w t0.2 (by omega))
  subst ts
  refine ⟨yr, fun q => ?_, fun q => ?_⟩
  · rcases n with ⟨a1, a2, a3, _⟩ | ⟨a1, _⟩
    · exact ⟨_, ⟨p0, by omega⟩, by rw [a2]; exact t0.1, a3⟩
    · have := a1.1.1; omega
  · have ok := cg.2 t _ _ p0 pq ql
    rcases n with ⟨_, _, _, a4⟩ | ⟨a1, D, a2, a3⟩
    · omega
    · have nn1 := y_nn1 _ a1.2.1
      have p1of : ∀ (r : Int) (D : Int → Int), y_cb i (y_In σ) (y_hd σ) t r → y_wy (y_rw σ i) (y_Wσ τ) (y_f σ r) (τ.2.1 88 y) (τ.2.1 89 y) (y_nn σ r) D → y_p1 (y_rw σ i) (y_Wσ τ) (y_f σ r) (τ.2.1 88 y) (y_nn σ r).toNat (τ.2.1 89 y) := fun r D cr w => by
        have nn1 := y_nn1 r cr.2.1
        have p := y_wp w (y_nn σ r).toNat (by omega)
        rw [show (((y_nn σ r).toNat : Nat) : Int) = y_nn σ r by omega, w.2.1] at p
        exact p
      rcases (zk t _ _ zs).2 with c | ⟨r, cr, rb, D', d1, d2⟩
      · exact (cv (ok.2.1.mpr (Or.inl ⟨⟨c.1, c.2.1, by rw [← el _ p0 (by omega)]; exact c.2.2⟩, _, a1, p1of _ _ a1 a2⟩))).elim
      · have nnr := y_nn1 _ cr.2.1
        have d1' : y_wy (y_rw σ i) (y_Wσ τ) (y_f σ r) (τ.2.1 88 y) (τ.2.1 89 y) (y_nn σ r) D' := y_wy_x d1 (by omega) (fun k a b => (er k (by omega) (by omega)).symm) (fun s p q a b c x => ((un s p q (by omega) b (by omega)).1).mp x)
        have e : r = τ.2.1 86 y := by
          have x := p1of _ _ a1 a2
          have x' := p1of _ _ cr d1'
          rcases Int.lt_trichotomy r (τ.2.1 86 y) with w | w | w
          · exact (cv (ok.2.1.mpr (Or.inr (Or.inr ⟨_, _, w, ⟨cr, x'⟩, a1, x⟩)))).elim
          · exact w
          · exact (cv (ok.2.1.mpr (Or.inr (Or.inr ⟨_, _, w, ⟨a1, x⟩, cr, x'⟩)))).elim
        subst e
        have DD := y_wy_u a2 d1' (by omega) (fun z => cv (ok.2.1.mpr (Or.inr (Or.inl ⟨_, a1, z⟩))))
        refine ⟨⟨rb, a1.1.2, a1.2.1⟩, fun k k0 k1 => ?_⟩
        obtain ⟨m, c1, c2, c3, c4, c5, c6, c7⟩ := a3 k k0 k1
        have ty : 0 ≤ -2 - y_f σ (τ.2.1 86 y) (m + 1) ∧ -2 - y_f σ (τ.2.1 86 y) (m + 1) < σ.1 3 := by
          rcases a2.2.2 m c1.1 c1.2 with ⟨w, _⟩ | ⟨_, _, w⟩
          · omega
          · have w := w.1; rw [e3] at w; exact ⟨w.1, w.2.1⟩
        have z := d2 m c1.1 c1.2 c2
        rw [← DD m c1.1 (by omega), ← DD (m + 1) (by omega) (by omega)] at z
        exact ⟨⟨by omega, c4.2⟩, _, ty, c5.symm, by rw [c6, c7]; exact z⟩
