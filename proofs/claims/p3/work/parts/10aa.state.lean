-- pure: what the class keeps of statements
/-- v is the variable of a floating hypothesis in the frame of i -/
def J_vf (i v : Int) (kd a tx fa fs hy : Int → Int) : Prop := ∃ k : Int, 0 ≤ k ∧ k < fs i ∧ kd (hy (fa i + k)) = 0 ∧ tx (a (hy (fa i + k)) + 1) = v
/-- a statement's symbols -/
def J_t (i us : Int) (kd a tx fl rk : Int → Int) : Prop := (a i + 1 ≤ a (i + 1) ∧ a (i + 1) ≤ us ∧ a (i + 1) ≤ a i + 300 ∧ (kd i = 0 → a i + 2 ≤ a (i + 1)) ∧ fl (a i) = -1) ∧ 0 ≤ rk (tx (a i)) ∧ ∀ p : Int, a i ≤ p → p < a (i + 1) → fl p = -1 ∨ (0 ≤ fl p ∧ fl p ≤ i ∧ kd (fl p) = 0 ∧ tx (a (fl p) + 1) = tx p)
/-- a frame without essential hypotheses is made of its assertion's variables; no two hypotheses are of the same variable -/
def J_f5 (i : Int) (kd a tx fl fa fs hy : Int → Int) : Prop := ((∃ k : Int, 0 ≤ k ∧ k < fs i ∧ kd (hy (fa i + k)) = 1) ∨ ∀ k : Int, 0 ≤ k → k < fs i → kd (hy (fa i + k)) = 0 ∧ ∃ p : Int, a i ≤ p ∧ p < a (i + 1) ∧ 0 ≤ fl p ∧ tx p = tx (a (hy (fa i + k)) + 1)) ∧
  ∀ k o : Int, 0 ≤ o → o < k → k < fs i → kd (hy (fa i + o)) = 0 → kd (hy (fa i + k)) = 0 → tx (a (hy (fa i + o)) + 1) ≠ tx (a (hy (fa i + k)) + 1)
/-- an assertion's frame -/
def J_f (i hu pr : Int) (kd a tx fl fa fs hy pa ps pq : Int → Int) : Prop := (fa i + fs i ≤ hu ∧ pa i + ps i ≤ pr) ∧ (∀ k : Int, 0 ≤ k → k < fs i → hy (fa i + k) < i ∧ kd (hy (fa i + k)) ≤ 1) ∧ (∀ p : Int, a i ≤ p → p < a (i + 1) → 0 ≤ fl p → ∃ k : Int, 0 ≤ k ∧ k < fs i ∧ hy (fa i + k) = fl p) ∧ (∀ q : Int, pa i ≤ q → q < pa i + ps i → J_vf i (pq q / 1000) kd a tx fa fs hy ∧ J_vf i (pq q % 1000) kd a tx fa fs hy) ∧ J_f5 i kd a tx fl fa fs hy
/-- a theorem's rows -/
def J_r (i ru : Int) (kd fs ra rc rs ca ch : Int → Int) : Prop := (1 ≤ rc i ∧ ra i + rc i ≤ ru) ∧ ∀ r : Int, ra i ≤ r → r < ra i + rc i → rs r < i ∧ ca (r + 1) = ca r + (if 2 ≤ kd (rs r) then fs (rs r) else 0) ∧ ∀ c : Int, ca r ≤ c → c < ca (r + 1) → ch c < r - ra i
def J_all (n us hu pr ru : Int) (kd a tx fl rk fa fs hy pa ps pq ra rc rs ca ch : Int → Int) : Prop :=
  (∀ i : Int, 0 ≤ i → i < n → J_t i us kd a tx fl rk ∧ (2 ≤ kd i → J_f i hu pr kd a tx fl fa fs hy pa ps pq) ∧ (kd i = 3 → J_r i ru kd fs ra rc rs ca ch)) ∧ ∀ r s : Int, 0 ≤ r → r ≤ s → s ≤ ru → ca r ≤ ca s
theorem J_all_add {n us hu pr ru : Int} {kd a tx fl rk fa fs hy pa ps pq ra rc rs ca ch : Int → Int} (h : J_all n us hu pr ru kd a tx fl rk fa fs hy pa ps pq ra rc rs ca ch)
    (h1 : J_t n us kd a tx fl rk) (h2 : 2 ≤ kd n → J_f n hu pr kd a tx fl fa fs hy pa ps pq) (h3 : kd n = 3 → J_r n ru kd fs ra rc rs ca ch) : J_all (n + 1) us hu pr ru kd a tx fl rk fa fs hy pa ps pq ra rc rs ca ch :=
  ⟨fun i i0 i1 => by
    by_cases z : i = n
    · rw [z]; exact ⟨h1, h2, h3⟩
    · exact h.1 i i0 (by omega), h.2⟩
abbrev c_Jn (n : Int) (σ : S0) : Prop := J_all n (σ.1 6) (σ.1 13) (σ.1 14) (σ.1 15) (σ.2.1 13) (σ.2.1 14) (σ.2.1 15) (σ.2.1 16) (σ.2.1 10) (σ.2.1 27) (σ.2.1 28) (σ.2.1 29) (σ.2.1 30) (σ.2.1 31) (σ.2.1 32) (σ.2.1 33) (σ.2.1 34) (σ.2.1 35) (σ.2.1 36) (σ.2.1 37)
abbrev c_J (σ : S0) : Prop := c_Jn (σ.1 7) σ
/-- first symbols have ranks: one each -/
def J_rks (sy rs : Int) (rank ranked : Int → Int) : Prop := (∀ r : Int, 0 ≤ r → r < rs → 0 ≤ ranked r ∧ ranked r < sy ∧ rank (ranked r) = r) ∧ ∀ s : Int, 0 ≤ s → s < sy → rank s < rs ∧ (0 ≤ rank s → ranked (rank s) = s)
theorem J_rks_s {sy rs : Int} {rank ranked : Int → Int} (h : J_rks sy rs rank ranked) (h0 : 0 ≤ rs) : J_rks (sy + 1) rs (st rank sy (-1)) ranked := by
  refine ⟨fun r r0 r1 => ?_, fun s s0 s1 => ?_⟩
  · have := h.1 r r0 r1
    rw [st_n _ _ (show ranked r ≠ sy from by omega)]; omega
  · by_cases z : s = sy
    · rw [z, st_s]; omega
    · rw [st_n _ _ z]; exact h.2 s s0 (by omega)
theorem J_rks_g {sy rs s : Int} {rank ranked : Int → Int} (h : J_rks sy rs rank ranked) (s0 : 0 ≤ s) (s1 : s < sy) (hs : rank s = -1) : J_rks sy (rs + 1) (st rank s rs) (st ranked rs s) := by
  refine ⟨fun r r0 r1 => ?_, fun t t0 t1 => ?_⟩
  · by_cases z : r = rs
    · rw [z, st_s, st_s]; exact ⟨s0, s1, rfl⟩
    · have := h.1 r r0 (by omega)
      rw [st_n _ _ z, st_n _ _ (show ranked r ≠ s from fun e => by rw [e] at this; omega)]; exact this
  · by_cases z : t = s
    · rw [z, st_s, st_s]; exact ⟨by omega, fun _ => rfl⟩
    · rw [st_n _ _ z]
      have := h.2 t t0 t1
      refine ⟨by omega, fun q => ?_⟩
      rw [st_n _ _ (show rank t ≠ rs from by omega)]; exact this.2 q
/-- what a text leaves of what was active, and of ranks -/
def c_Y (σ τ : S0) : Prop := (j_eq (σ.2.1 25 0) (σ.2.1 20) (τ.2.1 20) ∧ j_eq (σ.2.1 25 1) (σ.2.1 22) (τ.2.1 22) ∧ j_eq (σ.1 4) (σ.2.1 11) (τ.2.1 11) ∧ σ.1 4 ≤ τ.1 4) ∧ τ.2.1 25 0 = σ.2.1 25 0 ∧ τ.2.1 25 1 = σ.2.1 25 1 ∧ τ.2.1 25 2 = σ.2.1 25 2
theorem c_Y0 (σ : S0) : c_Y σ σ := ⟨⟨j_eq0 _ _, j_eq0 _ _, j_eq0 _ _, Int.le_refl _⟩, rfl, rfl, rfl⟩
theorem c_Y_g {σ τ : S0} (h4 : τ.1 4 = σ.1 4) (h11 : τ.2.1 11 = σ.2.1 11) (h20 : τ.2.1 20 = σ.2.1 20) (h22 : τ.2.1 22 = σ.2.1 22) (h25 : τ.2.1 25 = σ.2.1 25) : c_Y σ τ := by
  unfold c_Y
  rw [h4, h11, h20, h22, h25]
  exact ⟨⟨j_eq0 _ _, j_eq0 _ _, j_eq0 _ _, Int.le_refl _⟩, rfl, rfl, rfl⟩
theorem c_Y_t {σ τ υ : S0} (a : c_Y σ τ) (b : c_Y τ υ) : c_Y σ υ := by
  obtain ⟨⟨a1, a2, a3, a4⟩, a5, a6, a7⟩ := a
  obtain ⟨⟨b1, b2, b3, b4⟩, b5, b6, b7⟩ := b
  rw [a5] at b1; rw [a6] at b2
  exact ⟨⟨j_eqt a1 b1, j_eqt a2 b2, j_eqt a3 (j_eqw b3 a4), by omega⟩, by rw [b5, a5], by rw [b6, a6], by rw [b7, a7]⟩
/-- ranks that were given stay -/
def j_rr (n : Int) (f g : Int → Int) : Prop := ∀ s : Int, 0 ≤ s → s < n → 0 ≤ f s → g s = f s
theorem j_rr0 (n : Int) (f : Int → Int) : j_rr n f f := fun _ _ _ _ => rfl
theorem j_rrt {n m : Int} {f g h : Int → Int} (a : j_rr n f g) (b : j_rr m g h) (hn : n ≤ m) : j_rr n f h := fun s s0 s1 s2 => by
  have := a s s0 s1 s2
  rw [b s s0 (by omega) (by omega), this]
theorem j_rrs {n e x : Int} {f : Int → Int} (h : e < 0 ∨ n ≤ e ∨ f e < 0) : j_rr n f (st f e x) := fun s s0 s1 s2 => by
  rw [st_n _ _ (show s ≠ e from fun z => by rw [z] at s0 s1 s2; omega)]
def J_vs (n sy : Int) (vars : Int → Int) : Prop := ∀ i : Int, 0 ≤ i → i < n → vars i < sy
theorem J_vs_a {n sy sy' x : Int} {vars : Int → Int} (h : J_vs n sy vars) (h1 : sy ≤ sy') (hx : x < sy') : J_vs (n + 1) sy' (st vars n x) := fun i i0 i1 => by
  by_cases z : i = n
  · rw [z, st_s]; exact hx
  · rw [st_n _ _ z]; have := h i i0 (by omega); omega
theorem J_vs_w {n n' sy sy' : Int} {vars : Int → Int} (h : J_vs n sy vars) (h1 : sy ≤ sy') (h2 : n' ≤ n) : J_vs n' sy' vars := fun i i0 i1 => by have := h i i0 (by omega); omega
theorem ag_k {σ τ : S0} (g : c_ag σ τ) (k b : Nat) (c : Int) (d : (k, b, c) ∈ c_gT) : ∀ j : Int, j < σ.1 b + c → τ.2.1 k j = σ.2.1 k j := fun j hj => g.2 (k, b, c) d j hj
/-- what is known of statements holds as long as what stands below the counts does -/
theorem c_J_an {σ τ : S0} (h : c_J σ) (hT : c_T σ) (g : c_ag σ τ) (rr : j_rr (σ.1 5) (σ.2.1 10) (τ.2.1 10)) (tx : J_vs (σ.1 6) (σ.1 5) (σ.2.1 15)) (ch : j_eq (σ.2.1 36 (σ.1 15)) (σ.2.1 37) (τ.2.1 37)) (ru : ∀ r s : Int, σ.1 15 ≤ r → r ≤ s → s ≤ τ.1 15 → τ.2.1 36 r ≤ τ.2.1 36 s) : c_Jn (σ.1 7) τ := by
  have v6 := g.1 6 (by decide); have v13 := g.1 13 (by decide); have v14 := g.1 14 (by decide); have v15 := g.1 15 (by decide)
  have e13 := ag_k g 13 7 0 (by decide); have e14 := ag_k g 14 7 1 (by decide); have e15 := ag_k g 15 6 0 (by decide); have e16 := ag_k g 16 6 0 (by decide)
  have e27 := ag_k g 27 7 0 (by decide); have e28 := ag_k g 28 7 0 (by decide); have e29 := ag_k g 29 13 0 (by decide); have e30 := ag_k g 30 7 0 (by decide); have e31 := ag_k g 31 7 0 (by decide); have e32 := ag_k g 32 14 0 (by decide)
  have e33 := ag_k g 33 7 0 (by decide); have e34 := ag_k g 34 7 0 (by decide); have e35 := ag_k g 35 15 0 (by decide); have e36 := ag_k g 36 15 1 (by decide)
  obtain ⟨hs, cm⟩ := h
  have n0 := hT.2 29; have n14 : ∀ j, 0 ≤ σ.2.1 14 j := fun j => (hT.2 14 j).1
  have n15 : ∀ j, 0 ≤ σ.2.1 15 j := fun j => (hT.2 15 j).1
  have n29 : ∀ j, 0 ≤ σ.2.1 29 j := fun j => (hT.2 29 j).1
  have n35 : ∀ j, 0 ≤ σ.2.1 35 j := fun j => (hT.2 35 j).1
  have n33 : ∀ j, 0 ≤ σ.2.1 33 j := fun j => (hT.2 33 j).1
  -- the second symbol of a floating hypothesis
  have fv : ∀ f : Int, 0 ≤ f → f < σ.1 7 → σ.2.1 13 f = 0 → τ.2.1 13 f = 0 ∧ τ.2.1 15 (τ.2.1 14 f + 1) = σ.2.1 15 (σ.2.1 14 f + 1) := fun f f0 f1 f2 => by
    obtain ⟨⟨a1, a2, a3, a4, _⟩, _, _⟩ := (hs f f0 f1).1
    have := a4 f2
    rw [e13 f (by omega), e14 f (by omega), e15 _ (by omega)]; exact ⟨f2, rfl⟩
  refine ⟨fun i i0 i1 => ?_, fun r s r0 r1 r2 => ?_⟩
  · obtain ⟨⟨⟨a1, a2, a3, a4, a5⟩, b1, c1⟩, hf, hr⟩ := hs i i0 i1
    have k13 := e13 i (by omega); have k14 := e14 i (by omega); have l14 := e14 (i + 1) (by omega)
    have tt : J_t i (τ.1 6) (τ.2.1 13) (τ.2.1 14) (τ.2.1 15) (τ.2.1 16) (τ.2.1 10) := by
      refine ⟨⟨by rw [k14, l14]; omega, by rw [l14]; omega, by rw [k14, l14]; omega, fun z => by rw [k13] at z; rw [k14, l14]; exact a4 z, by rw [k14, e16 _ (by omega)]; exact a5⟩, ?_, fun p p0 p1 => ?_⟩
      · rw [k14, e15 _ (by omega), rr _ (n15 _) (tx _ (n14 _) (by omega)) b1]; exact b1
      · rw [k14] at p0; rw [l14] at p1
        rw [e16 p (by omega), e15 p (by omega)]
        rcases c1 p p0 p1 with q | ⟨q1, q2, q3, q4⟩
        · exact Or.inl q
        · have := fv _ q1 (by omega) q3
          exact Or.inr ⟨q1, q2, this.1, this.2.trans q4⟩
    refine ⟨tt, fun k => ?_, fun k => ?_⟩
    · rw [k13] at k
      obtain ⟨⟨f1, f2⟩, f3, f4, f5, f6⟩ := hf k
      have k27 := e27 i (by omega); have k28 := e28 i (by omega); have k30 := e30 i (by omega); have k31 := e31 i (by omega)
      have vf : ∀ v, J_vf i v (σ.2.1 13) (σ.2.1 14) (σ.2.1 15) (σ.2.1 27) (σ.2.1 28) (σ.2.1 29) → J_vf i v (τ.2.1 13) (τ.2.1 14) (τ.2.1 15) (τ.2.1 27) (τ.2.1 28) (τ.2.1 29) := fun v ⟨w, w0, w1, w2, w3⟩ => by
        have q := f3 w w0 w1
        refine ⟨w, w0, by rw [k28]; exact w1, ?_⟩
        rw [k27, e29 _ (by omega)]
        have := fv _ (n29 _) (by omega) w2
        exact ⟨this.1, this.2.trans w3⟩
      refine ⟨⟨by rw [k27, k28]; omega, by rw [k30, k31]; omega⟩, fun w w0 w1 => ?_, fun p p0 p1 p2 => ?_, fun q q0 q1 => ?_, ?_⟩
      · rw [k28] at w1
        have q := f3 w w0 w1
        rw [k27, e29 _ (by omega), e13 _ (by omega)]; exact q
      · rw [k14] at p0; rw [l14] at p1; rw [e16 p (by omega)] at p2 ⊢
        obtain ⟨w, w0, w1, w2⟩ := f4 p p0 p1 p2
        refine ⟨w, w0, by rw [k28]; exact w1, ?_⟩
        rw [k27, e29 _ (by omega)]; exact w2
      · rw [k30] at q0; rw [k30, k31] at q1
        have := f5 q q0 q1
        rw [e32 q (by omega)]
        exact ⟨vf _ this.1, vf _ this.2⟩
      · have hk : ∀ w : Int, 0 ≤ w → w < σ.2.1 28 i → τ.2.1 29 (σ.2.1 27 i + w) = σ.2.1 29 (σ.2.1 27 i + w) ∧ τ.2.1 13 (σ.2.1 29 (σ.2.1 27 i + w)) = σ.2.1 13 (σ.2.1 29 (σ.2.1 27 i + w)) := fun w w0 w1 => ⟨e29 _ (by omega), e13 _ (by have q := (f3 w w0 w1).1; omega)⟩
        have hv : ∀ w : Int, 0 ≤ w → w < σ.2.1 28 i → σ.2.1 13 (σ.2.1 29 (σ.2.1 27 i + w)) = 0 → τ.2.1 15 (τ.2.1 14 (σ.2.1 29 (σ.2.1 27 i + w)) + 1) = σ.2.1 15 (σ.2.1 14 (σ.2.1 29 (σ.2.1 27 i + w)) + 1) := fun w w0 w1 w2 => (fv _ (n29 _) (by have q := (f3 w w0 w1).1; omega) w2).2
        obtain ⟨g1, g2⟩ := f6
        refine ⟨?_, fun w o o0 o1 w1 z1 z2 => ?_⟩
        · rcases g1 with ⟨w, w0, w1, w2⟩ | g1
          · exact Or.inl ⟨w, w0, by rw [k28]; exact w1, by rw [k27, (hk w w0 w1).1, (hk w w0 w1).2]; exact w2⟩
          · refine Or.inr fun w w0 w1 => ?_
            rw [k28] at w1
            obtain ⟨z, p, p0, p1, p2, p3⟩ := g1 w w0 w1
            rw [k27, (hk w w0 w1).1, (hk w w0 w1).2]
            exact ⟨z, p, by rw [k14]; exact p0, by rw [l14]; exact p1, by rw [e16 p (by omega)]; exact p2, by rw [hv w w0 w1 z, e15 p (by omega)]; exact p3⟩
        · rw [k28] at w1
          have a1 := hk w (by omega) w1; have a2 := hk o o0 (by omega)
          rw [k27] at z1 z2 ⊢
          rw [a2.1] at z1 ⊢; rw [a1.1] at z2 ⊢
          rw [a2.2] at z1; rw [a1.2] at z2
          rw [hv w (by omega) w1 z2, hv o o0 (by omega) z1]
          exact g2 w o o0 o1 w1 z1 z2
    · rw [k13] at k
      obtain ⟨⟨r1, r2⟩, r3⟩ := hr k
      have k33 := e33 i (by omega); have k34 := e34 i (by omega)
      refine ⟨⟨by rw [k34]; omega, by rw [k33, k34]; omega⟩, fun r r0 rl => ?_⟩
      rw [k33] at r0; rw [k33, k34] at rl
      obtain ⟨s1, s2, s3⟩ := r3 r r0 rl
      have h33 := n33 i
      have cr := cm (r + 1) (σ.1 15) (by omega) (by omega) (Int.le_refl _)
      rw [e35 r (by omega), e36 (r + 1) (by omega), e36 r (by omega), e13 _ (by omega), e28 _ (by omega), k33]
      refine ⟨s1, s2, fun c c0 cl => ?_⟩
      rw [ch c (by omega)]; exact s3 c c0 cl
  · by_cases z1 : s ≤ σ.1 15
    · rw [e36 r (by omega), e36 s (by omega)]; exact cm r s r0 r1 z1
    · by_cases z2 : r ≤ σ.1 15
      · have a1 := cm r (σ.1 15) r0 z2 (Int.le_refl _)
        have a2 := ru (σ.1 15) s (Int.le_refl _) (by omega) r2
        rw [e36 (σ.1 15) (by omega)] at a2
        rw [e36 r (by omega)]; omega
      · exact ru r s (by omega) r1 r2
theorem c_J_ag {σ τ : S0} (h : c_J σ) (hT : c_T σ) (g : c_ag σ τ) (n : τ.1 7 = σ.1 7) (rr : j_rr (σ.1 5) (σ.2.1 10) (τ.2.1 10)) (tx : J_vs (σ.1 6) (σ.1 5) (σ.2.1 15)) (ch : j_eq (σ.2.1 36 (σ.1 15)) (σ.2.1 37) (τ.2.1 37)) (ru : τ.1 15 = σ.1 15) : c_J τ := by
  have := c_J_an h hT g rr tx ch (fun r s a b c => by rw [show r = s from by omega]; exact Int.le_refl _)
  rw [← n] at this; exact this
/-- hypotheses that are active -/
def J_sc (n hc : Int) (kd a tx fl hyp af : Int → Int) : Prop :=
  (∀ m : Int, 0 ≤ m → m < hc → hyp m < n ∧ kd (hyp m) ≤ 1 ∧ (kd (hyp m) = 1 → ∀ p : Int, a (hyp m) ≤ p → p < a (hyp m + 1) → 0 ≤ fl p → ∃ o : Int, 0 ≤ o ∧ o < m ∧ hyp o = fl p) ∧ (kd (hyp m) = 0 → af (tx (a (hyp m) + 1)) = hyp m) ∧ ∀ o : Int, 0 ≤ o → o < m → hyp o < hyp m) ∧
  ∀ s : Int, 0 ≤ s → s < 1000 → 0 ≤ af s → ∃ m : Int, 0 ≤ m ∧ m < hc ∧ hyp m = af s ∧ kd (af s) = 0 ∧ tx (a (af s) + 1) = s
abbrev c_S (σ : S0) : Prop := J_sc (σ.1 7) (σ.1 9) (σ.2.1 13) (σ.2.1 14) (σ.2.1 15) (σ.2.1 16) (σ.2.1 22) (σ.2.1 19)
theorem J_sc_w {n N hc : Int} {kd a tx fl hyp af : Int → Int} (h : J_sc n hc kd a tx fl hyp af) (hn : n ≤ N) : J_sc N hc kd a tx fl hyp af := ⟨fun m m0 m1 => by
  obtain ⟨b1, b2, b3⟩ := h.1 m m0 m1
  exact ⟨by omega, b2, b3⟩, h.2⟩
theorem J_sc_b {n N hc : Int} {kd a tx fl hyp af : Int → Int} (h : J_sc N hc kd a tx fl hyp af) (hb : ∀ m : Int, 0 ≤ m → m < hc → hyp m < n) : J_sc n hc kd a tx fl hyp af := ⟨fun m m0 m1 => ⟨hb m m0 m1, (h.1 m m0 m1).2⟩, h.2⟩
/-- the first floating hypothesis of a symbol -/
def J_ff (sy n : Int) (ff kd a tx : Int → Int) : Prop := ∀ s : Int, 0 ≤ s → s < sy → 0 ≤ ff s → ff s < n ∧ kd (ff s) = 0 ∧ tx (a (ff s) + 1) = s
abbrev c_F (σ : S0) : Prop := J_ff (σ.1 5) (σ.1 7) (σ.2.1 9) (σ.2.1 13) (σ.2.1 14) (σ.2.1 15)
/-- texts below the counts, as two states have them -/
def J_te (n us : Int) (kd a tx fl kd' a' tx' fl' : Int → Int) : Prop := (∀ j : Int, j < n → kd' j = kd j) ∧ (∀ j : Int, j < n + 1 → a' j = a j) ∧ (∀ j : Int, j < us → tx' j = tx j) ∧ ∀ j : Int, j < us → fl' j = fl j
theorem J_te_g {σ τ : S0} (g : c_ag σ τ) : J_te (σ.1 7) (σ.1 6) (σ.2.1 13) (σ.2.1 14) (σ.2.1 15) (σ.2.1 16) (τ.2.1 13) (τ.2.1 14) (τ.2.1 15) (τ.2.1 16) :=
  ⟨fun j hj => ag_k g 13 7 0 (by decide) j (by omega), ag_k g 14 7 1 (by decide), fun j hj => ag_k g 15 6 0 (by decide) j (by omega), fun j hj => ag_k g 16 6 0 (by decide) j (by omega)⟩
theorem J_fv {n us f : Int} {kd a tx fl rk kd' a' tx' fl' : Int → Int} (te : J_te n us kd a tx fl kd' a' tx' fl') (hJ : ∀ i : Int, 0 ≤ i → i < n → J_t i us kd a tx fl rk) (f0 : 0 ≤ f) (f1 : f < n) (f2 : kd f = 0) : kd' f = 0 ∧ tx' (a' f + 1) = tx (a f + 1) := by
  obtain ⟨⟨a1, a2, a3, a4, _⟩, _, _⟩ := hJ f f0 f1
  have := a4 f2
  rw [te.1 f f1, te.2.1 f (by omega), te.2.2.1 _ (by omega)]; exact ⟨f2, rfl⟩
theorem J_sc_x {n n' us hc : Int} {kd a tx fl rk hyp af kd' a' tx' fl' : Int → Int} (h : J_sc n hc kd a tx fl hyp af) (te : J_te n us kd a tx fl kd' a' tx' fl') (hJ : ∀ i : Int, 0 ≤ i → i < n → J_t i us kd a tx fl rk) (h0 : ∀ m, 0 ≤ hyp m) (hn : n ≤ n') : J_sc n' hc kd' a' tx' fl' hyp af := by
  refine ⟨fun m m0 m1 => ?_, fun s s0 s1 s2 => ?_⟩
  · obtain ⟨b1, b2, b3, b4, b5⟩ := h.1 m m0 m1
    obtain ⟨⟨a1, a2, a3, a4, _⟩, _, _⟩ := hJ _ (h0 m) b1
    have fv := fun z => J_fv te hJ (h0 m) b1 z
    refine ⟨by omega, by rw [te.1 _ b1]; exact b2, fun k p p0 p1 p2 => ?_, fun z => ?_, b5⟩
    · rw [te.1 _ b1] at k
      rw [te.2.1 _ (by omega)] at p0 p1
      rw [te.2.2.2 p (by omega)] at p2 ⊢
      exact b3 k p p0 p1 p2
    · rw [te.1 _ b1] at z
      rw [(fv z).2]; exact b4 z
  · obtain ⟨m, m0, m1, m2, m3, m4⟩ := h.2 s s0 s1 s2
    have b := (h.1 m m0 m1).1
    rw [m2] at b
    have := J_fv te hJ s2 b m3
    exact ⟨m, m0, m1, m2, this.1, this.2.trans m4⟩
theorem J_ff_x {sy n n' us : Int} {ff kd a tx fl rk kd' a' tx' fl' : Int → Int} (h : J_ff sy n ff kd a tx) (te : J_te n us kd a tx fl kd' a' tx' fl') (hJ : ∀ i : Int, 0 ≤ i → i < n → J_t i us kd a tx fl rk) (hn : n ≤ n') : J_ff sy n' ff kd' a' tx' := fun s s0 s1 s2 => by
  obtain ⟨b1, b2, b3⟩ := h s s0 s1 s2
  have := J_fv te hJ s2 b1 b2
  exact ⟨by omega, this.1, this.2.trans b3⟩
theorem c_Jt {σ : S0} (h : c_J σ) : ∀ i : Int, 0 ≤ i → i < σ.1 7 → J_t i (σ.1 6) (σ.2.1 13) (σ.2.1 14) (σ.2.1 15) (σ.2.1 16) (σ.2.1 10) := fun i i0 i1 => (h.1 i i0 i1).1
theorem c_S_ag {σ τ : S0} (h : c_S σ) (hJ : c_J σ) (hT : c_T σ) (g : c_ag σ τ) (hc : τ.1 9 = σ.1 9) (hy : τ.2.1 22 = σ.2.1 22) (af : τ.2.1 19 = σ.2.1 19) : c_S τ := by
  show J_sc (τ.1 7) (τ.1 9) _ _ _ _ (τ.2.1 22) (τ.2.1 19)
  rw [hc, hy, af]
  exact J_sc_x h (J_te_g g) (c_Jt hJ) (fun m => (hT.2 22 m).1) (g.1 7 (by decide))
theorem c_F_ag {σ τ : S0} (h : c_F σ) (hJ : c_J σ) (g : c_ag σ τ) (sy : τ.1 5 = σ.1 5) (ff : τ.2.1 9 = σ.2.1 9) : c_F τ := by
  show J_ff (τ.1 5) (τ.1 7) (τ.2.1 9) _ _ _
  rw [sy, ff]
  exact J_ff_x h (J_te_g g) (c_Jt hJ) (g.1 7 (by decide))
theorem J_ff_k {sy n k : Int} {ff kd a tx : Int → Int} (h : J_ff sy n ff kd a tx) : J_ff sy (n + 1) ff (st kd n k) a tx := fun s s0 s1 s2 => by
  obtain ⟨a1, a2, a3⟩ := h s s0 s1 s2
  rw [st_n _ _ (show ff s ≠ n from by omega)]; exact ⟨by omega, a2, a3⟩
theorem J_ff_n {sy n k v : Int} {ff kd a tx : Int → Int} (h : J_ff sy n ff kd a tx) (hk : k = 0) (hv : tx (a n + 1) = v) : J_ff sy (n + 1) (st ff v n) (st kd n k) a tx := fun s s0 s1 s2 => by
  by_cases z : s = v
  · rw [z, st_s, st_s]; exact ⟨by omega, hk, hv⟩
  · rw [st_n _ _ z] at s2 ⊢; exact J_ff_k h s s0 s1 s2
theorem J_ff_s {sy n : Int} {ff kd a tx : Int → Int} (h : J_ff sy n ff kd a tx) : J_ff (sy + 1) n (st ff sy (-1)) kd a tx := fun s s0 s1 s2 => by
  by_cases z : s = sy
  · rw [z, st_s] at s2; omega
  · rw [st_n _ _ z] at s2 ⊢; exact h s s0 (by omega) s2
/-- of a symbol that is new -/
theorem c_F_as {σ τ : S0} (h : c_F σ) (hJ : c_J σ) (g : c_ag σ τ) (sy : τ.1 5 = σ.1 5 + 1) (ff : τ.2.1 9 = st (σ.2.1 9) (σ.1 5) (-1)) : c_F τ := by
  show J_ff (τ.1 5) (τ.1 7) (τ.2.1 9) _ _ _
  rw [sy, ff]
  have := J_ff_x h (J_te_g g) (c_Jt hJ) (g.1 7 (by decide))
  intro s s0 s1 s2
  by_cases z : s = σ.1 5
  · rw [z, st_s] at s2; omega
  · rw [st_n _ _ z] at s2 ⊢; exact this s s0 (by omega) s2
/-- the statement that is read: of each of its symbols a floating hypothesis that is active, its own, or none -/
def J_ip (n us kk : Int) (a tx fl af : Int → Int) : Prop := ∀ p : Int, a n ≤ p → p < us → (fl p = -1 ∨ (0 ≤ fl p ∧ fl p = af (tx p)) ∨ (kk = 0 ∧ p = a n + 1 ∧ fl p = n)) ∧ (kk = 0 → p = a n + 1 → af (tx p) < 0) ∧ (p = a n → fl p = -1)
theorem J_ip0 {n kk us : Int} {a tx fl af : Int → Int} (h : us ≤ a n) : J_ip n us kk a tx fl af := fun p p0 p1 => by omega
theorem J_ip_a {n us kk s v : Int} {a a' tx fl af : Int → Int} (h : J_ip n us kk a tx fl af) (ha : a' n = a n) (hv : v = -1 ∨ (0 ≤ v ∧ v = af s) ∨ (kk = 0 ∧ us = a n + 1 ∧ v = n)) (hw : kk = 0 → us = a n + 1 → af s < 0) (hz : us = a n → v = -1) : J_ip n (us + 1) kk a' (st tx us s) (st fl us v) af := fun p p0 p1 => by
  rw [ha] at p0 ⊢
  by_cases z : p = us
  · rw [z, st_s, st_s]; exact ⟨hv, hw, hz⟩
  · rw [st_n _ _ z, st_n _ _ z]; exact h p p0 (by omega)
/-- the symbols of the statement that is read, as statement n of kind k -/
theorem J_t_new {n us hc k : Int} {kd a tx fl rk hyp af : Int → Int} (ip : J_ip n us k a tx fl af) (sc : J_sc n hc kd a tx fl hyp af) (h1 : a (n + 1) = us) (h2 : a n + 1 ≤ us) (h3 : us ≤ a n + 300) (h4 : k = 0 → a n + 2 ≤ us) (r : 0 ≤ rk (tx (a n))) (n0 : 0 ≤ n) (t0 : ∀ p, 0 ≤ tx p ∧ tx p < 1000) : J_t n us (st kd n k) a tx fl rk := by
  refine ⟨⟨by omega, by omega, by omega, fun z => by rw [st_s] at z; rw [h1]; exact h4 z, (ip (a n) (Int.le_refl _) (by omega)).2.2 rfl⟩, r, fun p p0 p1 => ?_⟩
  rw [h1] at p1
  rcases (ip p p0 p1).1 with q | ⟨q1, q2⟩ | ⟨q1, q2, q3⟩
  · exact Or.inl q
  · obtain ⟨m, m0, m1, m2, m3, m4⟩ := sc.2 (tx p) (t0 p).1 (t0 p).2 (by omega)
    have b := (sc.1 m m0 m1).1
    rw [m2, ← q2] at b; rw [← q2] at m3 m4
    refine Or.inr ⟨q1, by omega, ?_, m4⟩
    rw [st_n _ _ (show fl p ≠ n from by omega)]; exact m3
  · refine Or.inr ⟨by omega, by omega, by rw [q3, st_s]; exact q1, ?_⟩
    rw [q3, ← q2]
/-- a new hypothesis is active -/
theorem J_sc_add {n hc us : Int} {kd a tx fl hyp af af' : Int → Int} (h : J_sc n hc kd a tx fl hyp af) (hk : kd n ≤ 1) (ip : J_ip n us (kd n) a tx fl af) (h1 : a (n + 1) = us) (h0 : ∀ m, 0 ≤ hyp m) (n0 : 0 ≤ n) (c0 : 0 ≤ hc) (t0 : ∀ p, 0 ≤ tx p ∧ tx p < 1000) (h2 : kd n = 0 → a n + 2 ≤ us)
    (e0 : kd n = 0 → af' = st af (tx (a n + 1)) n) (e1 : kd n ≠ 0 → af' = af) : J_sc (n + 1) (hc + 1) kd a tx fl (st hyp hc n) af' := by
  refine ⟨fun m m0 m1 => ?_, fun s s0 s1 s2 => ?_⟩
  · by_cases z : m = hc
    · rw [z, st_s]
      refine ⟨by omega, hk, fun k1 p p0 p1 p2 => ?_, fun z => by rw [e0 z, st_s], fun o o0 o1 => by rw [st_n _ _ (show o ≠ hc from by omega)]; exact (h.1 o o0 o1).1⟩
      rw [h1] at p1
      rcases (ip p p0 p1).1 with q | ⟨q1, q2⟩ | ⟨q1, q2, q3⟩
      · omega
      · obtain ⟨o, o0, o1, o2, o3, o4⟩ := h.2 (tx p) (t0 p).1 (t0 p).2 (by omega)
        exact ⟨o, o0, o1, by rw [st_n _ _ (show o ≠ hc from by omega), o2, q2]⟩
      · omega
    · rw [st_n _ _ z]
      obtain ⟨b1, b2, b3, b4, b5⟩ := h.1 m m0 (by omega)
      refine ⟨by omega, b2, fun k1 p p0 p1 p2 => ?_, fun y => ?_, fun o o0 o1 => by rw [st_n _ _ (show o ≠ hc from by omega)]; exact b5 o o0 o1⟩
      · obtain ⟨o, o0, o1, o2⟩ := b3 k1 p p0 p1 p2
        exact ⟨o, o0, o1, by rw [st_n _ _ (show o ≠ hc from by omega)]; exact o2⟩
      · have b := b4 y
        by_cases kz : kd n = 0
        · have w := (ip (a n + 1) (by omega) (by have := h2 kz; omega)).2.1 kz rfl
          have hm := h0 m
          rw [e0 kz, st_n _ _ (fun q => by rw [q] at b; omega)]; exact b
        · rw [e1 kz]; exact b
  · have old : 0 ≤ af s → ∃ m : Int, 0 ≤ m ∧ m < hc + 1 ∧ st hyp hc n m = af s ∧ kd (af s) = 0 ∧ tx (a (af s) + 1) = s := fun q => by
      obtain ⟨m, m0, m1, m2, m3, m4⟩ := h.2 s s0 s1 q
      exact ⟨m, m0, by omega, by rw [st_n _ _ (show m ≠ hc from by omega)]; exact m2, m3, m4⟩
    by_cases z : kd n = 0
    · rw [e0 z] at s2 ⊢
      by_cases y : s = tx (a n + 1)
      · rw [y, st_s]
        exact ⟨hc, c0, by omega, st_s _ _ _, z, rfl⟩
      · rw [st_n _ _ y] at s2 ⊢; exact old s2
    · rw [e1 z] at s2 ⊢; exact old s2
theorem J_te_k (n us k : Int) (kd a tx fl : Int → Int) : J_te n us kd a tx fl (st kd n k) a tx fl := ⟨fun j hj => st_n _ _ (show j ≠ n from by omega), fun _ _ => rfl, fun _ _ => rfl, fun _ _ => rfl⟩
/-- what is cut off is active no more -/
theorem J_sc_cut {n hc c : Int} {kd a tx fl hyp af af' : Int → Int} (h : J_sc n hc kd a tx fl hyp af) (hc0 : c ≤ hc) (e : ∀ s : Int, 0 ≤ s → s < 1000 → 0 ≤ af' s → af' s = af s ∧ ∀ m : Int, c ≤ m → m < hc → hyp m ≠ af s) (e2 : ∀ m : Int, 0 ≤ m → m < c → kd (hyp m) = 0 → af' (tx (a (hyp m) + 1)) = hyp m) : J_sc n c kd a tx fl hyp af' := by
  refine ⟨fun m m0 m1 => by obtain ⟨b1, b2, b3, b4, b5⟩ := h.1 m m0 (by omega); exact ⟨b1, b2, b3, e2 m m0 m1, b5⟩, fun s s0 s1 s2 => ?_⟩
  obtain ⟨q, r⟩ := e s s0 s1 s2
  rw [q] at s2 ⊢
  obtain ⟨m, m0, m1, m2, m3, m4⟩ := h.2 s s0 s1 s2
  refine ⟨m, m0, ?_, m2, m3, m4⟩
  have := r m
  omega
/-- one more is cut off -/
theorem J_cu {n hc u c : Int} {kd a tx fl hyp af af' : Int → Int} (h : J_sc n hc kd a tx fl hyp af) (u0 : 0 ≤ u) (u1 : u < hc) (e : ∀ s : Int, 0 ≤ s → s < 1000 → 0 ≤ af' s → af' s = af s ∧ ∀ m : Int, c ≤ m → m < u → hyp m ≠ af s) :
    (kd (hyp u) ≠ 0 → ∀ s : Int, 0 ≤ s → s < 1000 → 0 ≤ af' s → af' s = af s ∧ ∀ m : Int, c ≤ m → m < u + 1 → hyp m ≠ af s) ∧
    (∀ v : Int, v = tx (a (hyp u) + 1) → ∀ s : Int, 0 ≤ s → s < 1000 → 0 ≤ st af' v (-1) s → st af' v (-1) s = af s ∧ ∀ m : Int, c ≤ m → m < u + 1 → hyp m ≠ af s) := by
  refine ⟨fun k s s0 s1 s2 => ?_, fun v hv s s0 s1 s2 => ?_⟩
  · obtain ⟨q, r⟩ := e s s0 s1 s2
    refine ⟨q, fun m m0 m1 => ?_⟩
    by_cases z : m = u
    · rw [z]; intro y
      obtain ⟨o, o0, o1, o2, o3, o4⟩ := h.2 s s0 s1 (by omega)
      rw [y] at k; exact k o3
    · exact r m m0 (by omega)
  · by_cases y : s = v
    · rw [y, st_s] at s2; omega
    · rw [st_n _ _ y] at s2 ⊢
      obtain ⟨q, r⟩ := e s s0 s1 s2
      refine ⟨q, fun m m0 m1 => ?_⟩
      by_cases z : m = u
      · rw [z]; intro x
        obtain ⟨o, o0, o1, o2, o3, o4⟩ := h.2 s s0 s1 (by omega)
        rw [x] at hv; exact y (by rw [hv, o4])
      · exact r m m0 (by omega)
theorem J_cv {n hc u c : Int} {kd a tx fl hyp af af' : Int → Int} (h : J_sc n hc kd a tx fl hyp af) (u0 : 0 ≤ u) (u1 : u < hc) (cu : c ≤ u) (k : kd (hyp u) = 0) (e : ∀ m : Int, 0 ≤ m → m < c → kd (hyp m) = 0 → af' (tx (a (hyp m) + 1)) = hyp m) :
    ∀ v : Int, v = tx (a (hyp u) + 1) → ∀ m : Int, 0 ≤ m → m < c → kd (hyp m) = 0 → st af' v (-1) (tx (a (hyp m) + 1)) = hyp m := fun v hv m m0 m1 z => by
  have x := (h.1 m m0 (by omega)).2.2.2.1 z
  obtain ⟨y1, y2, y3, y4, y5⟩ := h.1 u u0 u1
  have y := y4 k
  have o := y5 m m0 (by omega)
  rw [st_n _ _ (fun q => by rw [q, hv, y] at x; omega)]
  exact e m m0 m1 z
/-- labels of statements have a label's characters -/
def J_nl (nm : Int) (L A M : Int → Int) : Prop := ∀ n : Int, 0 ≤ n → n < nm → 0 ≤ M n → ∀ k : Int, A n ≤ k → k < A (n + 1) → j_lc (L k)
theorem J_nl_a {nm s x : Int} {L A M L' : Int → Int} (h : J_nl nm L A M) (mo : ∀ n : Int, 0 ≤ n → n ≤ nm → A n ≤ A nm) (e : ∀ j : Int, j < A nm → L' j = L j) (hx : 0 ≤ x → ∀ k : Int, 0 ≤ k → k < s → j_lc (L' (A nm + k))) : J_nl (nm + 1) L' (st A (nm + 1) (A nm + s)) (st M nm x) := fun n n0 n1 c k k0 k1 => by
  by_cases z : n = nm
  · rw [z, st_s] at c
    rw [z, st_n _ _ (show nm ≠ nm + 1 from by omega)] at k0
    rw [z, st_s] at k1
    have := hx c (k - A nm) (by omega) (by omega)
    rw [show A nm + (k - A nm) = k from by omega] at this
    exact this
  · rw [st_n _ _ z] at c
    rw [st_n _ _ (show n ≠ nm + 1 from by omega)] at k0
    rw [st_n _ _ (show n + 1 ≠ nm + 1 from by omega)] at k1
    have := mo (n + 1) (by omega) (by omega)
    rw [e k (by omega)]
    exact h n n0 (by omega) c k k0 k1
/-- what is named as a statement by a row of characters is a label -/
theorem J_nl_l {nm x s a : Int} {L A M f : Int → Int} (h : J_nl nm L A M) (x0 : 0 ≤ x) (x1 : x < nm) (hm : 0 ≤ M x) (e : c_eq L A x f a s) : ∀ k : Int, 0 ≤ k → k < s → j_lc (f (a + k)) := fun k k0 k1 => by
  have := h x x0 x1 hm (A x + k) (by omega) (by have := e.1; omega)
  rw [e.2 k k0 k1] at this; exact this
/-- the marks of a frame that is made: each variable of its assertion is marked, and what is marked has an active floating hypothesis -/
def J_mA (n tn : Int) (a tx fl mt : Int → Int) : Prop := ∀ p : Int, a n ≤ p → p < a (n + 1) → ¬ fl p = -1 → mt (tx p) = tn
def J_mB (tn hc : Int) (kd a tx hyp mt : Int → Int) : Prop := ∀ s : Int, mt s = tn → ∃ m : Int, 0 ≤ m ∧ m < hc ∧ kd (hyp m) = 0 ∧ tx (a (hyp m) + 1) = s
/-- of the first u active hypotheses those that belong to the frame stand in it -/
def J_tk (n u tn : Int) (kd a tx mt hyp fa fs hy : Int → Int) : Prop := (∀ k : Int, 0 ≤ k → k < fs n → hy (fa n + k) < n ∧ kd (hy (fa n + k)) ≤ 1 ∧ (kd (hy (fa n + k)) = 0 → mt (tx (a (hy (fa n + k)) + 1)) = tn) ∧ (∃ m : Int, 0 ≤ m ∧ m < u ∧ hyp m = hy (fa n + k)) ∧ ∀ o : Int, 0 ≤ o → o < k → hy (fa n + o) < hy (fa n + k)) ∧ ∀ m : Int, 0 ≤ m → m < u → (kd (hyp m) ≠ 0 ∨ mt (tx (a (hyp m) + 1)) = tn) → ∃ k : Int, 0 ≤ k ∧ k < fs n ∧ hy (fa n + k) = hyp m
theorem J_tk_s {n u tn : Int} {kd a tx mt hyp fa fs hy : Int → Int} (h : J_tk n u tn kd a tx mt hyp fa fs hy) (z : ¬ (kd (hyp u) ≠ 0 ∨ mt (tx (a (hyp u) + 1)) = tn)) : J_tk n (u + 1) tn kd a tx mt hyp fa fs hy := ⟨fun k k0 k1 => by
  obtain ⟨a1, a2, a3, ⟨m, m0, m1, m2⟩, a5⟩ := h.1 k k0 k1
  exact ⟨a1, a2, a3, ⟨m, m0, by omega, m2⟩, a5⟩, fun m m0 m1 c => by
  by_cases y : m = u
  · rw [y] at c; exact absurd c z
  · exact h.2 m m0 (by omega) c⟩
theorem J_tk_a {n u tn hu : Int} {kd a tx mt hyp fa fs hy : Int → Int} (h : J_tk n u tn kd a tx mt hyp fa fs hy) (e : fa n + fs n = hu) (f0 : 0 ≤ fs n) (h1 : hyp u < n) (h2 : kd (hyp u) ≤ 1) (h3 : kd (hyp u) = 0 → mt (tx (a (hyp u) + 1)) = tn) (h4 : ∀ o : Int, 0 ≤ o → o < u → hyp o < hyp u) (u0 : 0 ≤ u) : J_tk n (u + 1) tn kd a tx mt hyp fa (st fs n (fs n + 1)) (st hy hu (hyp u)) := by
  refine ⟨fun k k0 k1 => ?_, fun m m0 m1 c => ?_⟩
  · rw [st_s] at k1
    by_cases y : k = fs n
    · rw [y, e, st_s]
      refine ⟨h1, h2, h3, ⟨u, u0, by omega, rfl⟩, fun o o0 o1 => ?_⟩
      obtain ⟨a1, a2, a3, ⟨m, m0, m1, m2⟩, a5⟩ := h.1 o o0 o1
      rw [st_n _ _ (show fa n + o ≠ hu from by omega), ← m2]; exact h4 m m0 m1
    · obtain ⟨a1, a2, a3, ⟨m, m0, m1, m2⟩, a5⟩ := h.1 k k0 (by omega)
      rw [st_n _ _ (show fa n + k ≠ hu from by omega)]
      exact ⟨a1, a2, a3, ⟨m, m0, by omega, m2⟩, fun o o0 o1 => by rw [st_n _ _ (show fa n + o ≠ hu from by omega)]; exact a5 o o0 o1⟩
  · rw [st_s]
    by_cases y : m = u
    · rw [y]; exact ⟨fs n, f0, by omega, by rw [e, st_s]⟩
    · obtain ⟨k, k0, k1, k2⟩ := h.2 m m0 (by omega) c
      exact ⟨k, k0, by omega, by rw [st_n _ _ (show fa n + k ≠ hu from by omega)]; exact k2⟩
/-- without essential hypotheses the marks are those of the assertion -/
def J_mC (n tn hc : Int) (kd a tx fl hyp mt : Int → Int) : Prop := (∃ m : Int, 0 ≤ m ∧ m < hc ∧ kd (hyp m) = 1) ∨ ∀ s : Int, mt s = tn → ∃ p : Int, a n ≤ p ∧ p < a (n + 1) ∧ ¬ fl p = -1 ∧ tx p = s
/-- both symbols of the pairs of a frame are marked -/
def J_pm (n tn : Int) (pa ps pq mt : Int → Int) : Prop := ∀ q : Int, pa n ≤ q → q < pa n + ps n → mt (pq q / 1000) = tn ∧ mt (pq q % 1000) = tn
theorem J_pm_a {n tn pr x y : Int} {pa ps pq mt : Int → Int} (h : J_pm n tn pa ps pq mt) (e : pa n + ps n = pr) (x0 : 0 ≤ x) (y0 : 0 ≤ y) (y1 : y < 1000) (h1 : mt x = tn) (h2 : mt y = tn) : J_pm n tn pa (st ps n (ps n + 1)) (st pq pr (x * 1000 + y)) mt := fun q q0 q1 => by
  rw [st_s] at q1
  by_cases z : q = pr
  · rw [z, st_s, show (x * 1000 + y) / 1000 = x from by omega, show (x * 1000 + y) % 1000 = y from by omega]; exact ⟨h1, h2⟩
  · rw [st_n _ _ z]; exact h q q0 (by omega)
/-- the frame is whole -/
theorem J_f_new {n us hc hu pr kk tn : Int} {kd a tx fl rk hyp af fa fs hy pa ps pq mt : Int → Int} (sc : J_sc n hc kd a tx fl hyp af) (ip : J_ip n us kk a tx fl af) (kk0 : ¬ kk = 0) (h1 : a (n + 1) = us) (t0 : ∀ p, 0 ≤ tx p ∧ tx p < 1000) (k0 : ∀ j, 0 ≤ kd j) (f0 : ∀ p, -1 ≤ fl p)
    (A : J_mA n tn a tx fl mt) (B : J_mB tn hc kd a tx hyp mt) (C : J_mC n tn hc kd a tx fl hyp mt) (tk : J_tk n hc tn kd a tx mt hyp fa fs hy) (pm : J_pm n tn pa ps pq mt) (b1 : fa n + fs n ≤ hu) (b2 : pa n + ps n ≤ pr) : J_f n hu pr kd a tx fl fa fs hy pa ps pq := by
  have vf : ∀ v, mt v = tn → J_vf n v kd a tx fa fs hy := fun v hv => by
    obtain ⟨m, m0, m1, m2, m3⟩ := B v hv
    obtain ⟨k, k0, k1, k2⟩ := tk.2 m m0 m1 (Or.inr (by rw [m3]; exact hv))
    exact ⟨k, k0, k1, by rw [k2]; exact m2, by rw [k2]; exact m3⟩
  refine ⟨⟨b1, b2⟩, fun k a1 a2 => ⟨(tk.1 k a1 a2).1, (tk.1 k a1 a2).2.1⟩, fun p p0 p1 p2 => ?_, fun q q0 q1 => ⟨vf _ (pm q q0 q1).1, vf _ (pm q q0 q1).2⟩, ?_, fun k o o0 o1 k1 z1 z2 q => ?_⟩
  · rcases (ip p p0 (by omega)).1 with q | ⟨q1, q2⟩ | ⟨q1, q2, q3⟩
    · omega
    · obtain ⟨m, m0, m1, m2, m3, m4⟩ := sc.2 (tx p) (t0 p).1 (t0 p).2 (by omega)
      obtain ⟨k, k0, k1, k2⟩ := tk.2 m m0 m1 (Or.inr (by rw [m2, m4]; exact A p p0 p1 (by omega)))
      exact ⟨k, k0, k1, by rw [k2, m2, q2]⟩
    · exact absurd q1 kk0
  · by_cases ex : ∃ k : Int, 0 ≤ k ∧ k < fs n ∧ kd (hy (fa n + k)) = 1
    · exact Or.inl ex
    · refine Or.inr fun k a1 a2 => ?_
      obtain ⟨c1, c2, c3, c4, c5⟩ := tk.1 k a1 a2
      have kz : kd (hy (fa n + k)) = 0 := by
        have w := k0 (hy (fa n + k))
        by_cases y : kd (hy (fa n + k)) = 1
        · exact absurd ⟨k, a1, a2, y⟩ ex
        · omega
      refine ⟨kz, ?_⟩
      rcases C with ⟨m, m0, m1, m2⟩ | C
      · obtain ⟨o, o0, o1, o2⟩ := tk.2 m m0 m1 (Or.inl (by omega))
        exact absurd ⟨o, o0, o1, by rw [o2]; exact m2⟩ ex
      · obtain ⟨p, p0, p1, p2, p3⟩ := C _ (c3 kz)
        have := f0 p
        exact ⟨p, p0, p1, by omega, p3⟩
  · obtain ⟨c1, c2, c3, ⟨m, m0, m1, m2⟩, c5⟩ := tk.1 k (by omega) k1
    obtain ⟨d1, d2, d3, ⟨l, l0, l1, l2⟩, d5⟩ := tk.1 o o0 (by omega)
    have x := (sc.1 m m0 m1).2.2.2.1 (by rw [m2]; exact z2)
    have y := (sc.1 l l0 l1).2.2.2.1 (by rw [l2]; exact z1)
    rw [m2] at x; rw [l2] at y
    have o2 := c5 o o0 o1
    rw [q] at y; omega
/-- what is marked by the assertion itself -/
theorem J_mB_a {n us hc kk tn : Int} {kd a tx fl hyp af mt mt' : Int → Int} (sc : J_sc n hc kd a tx fl hyp af) (ip : J_ip n us kk a tx fl af) (kk0 : ¬ kk = 0) (h1 : a (n + 1) = us) (t0 : ∀ p, 0 ≤ tx p ∧ tx p < 1000) (f0 : ∀ p, -1 ≤ fl p) (e : ∀ s : Int, mt' s = tn → mt s = tn ∨ ∃ p : Int, a n ≤ p ∧ p < a (n + 1) ∧ ¬ fl p = -1 ∧ tx p = s) (h : ∀ s : Int, ¬ mt s = tn) : J_mB tn hc kd a tx hyp mt' := fun s hs => by
  rcases e s hs with q | ⟨p, p0, p1, p2, p3⟩
  · exact absurd q (h s)
  · have := f0 p
    rcases (ip p p0 (by omega)).1 with q | ⟨q1, q2⟩ | ⟨q1, q2, q3⟩
    · omega
    · obtain ⟨m, m0, m1, m2, m3, m4⟩ := sc.2 (tx p) (t0 p).1 (t0 p).2 (by omega)
      exact ⟨m, m0, m1, by rw [m2]; exact m3, by rw [m2, m4]; exact p3⟩
    · exact absurd q1 kk0
/-- what is marked by an essential hypothesis -/
theorem J_mB_e {n us hc tn m0 : Int} {kd a tx fl rk hyp af mt mt' : Int → Int} (sc : J_sc n hc kd a tx fl hyp af) (hJ : ∀ i : Int, 0 ≤ i → i < n → J_t i us kd a tx fl rk) (h0 : ∀ m, 0 ≤ hyp m) (f0 : ∀ p, -1 ≤ fl p) (B : J_mB tn hc kd a tx hyp mt) (a0 : 0 ≤ m0) (a1 : m0 < hc) (k1 : kd (hyp m0) = 1) (e : ∀ s : Int, mt' s = tn → mt s = tn ∨ ∃ p : Int, a (hyp m0) ≤ p ∧ p < a (hyp m0 + 1) ∧ ¬ fl p = -1 ∧ tx p = s) : J_mB tn hc kd a tx hyp mt' := fun s hs => by
  rcases e s hs with q | ⟨p, p0, p1, p2, p3⟩
  · exact B s q
  · have := f0 p
    obtain ⟨b1, b2, b3, _, _⟩ := sc.1 m0 a0 a1
    obtain ⟨o, o0, o1, o2⟩ := b3 k1 p p0 p1 (by omega)
    obtain ⟨_, _, c3⟩ := hJ _ (h0 m0) b1
    rcases c3 p p0 p1 with q | ⟨q1, q2, q3, q4⟩
    · omega
    · exact ⟨o, o0, by omega, by rw [o2]; exact q3, by rw [o2, q4]; exact p3⟩
