-- pure: what the model keeps of statements
/-- a place in a statement's text -/
def n_P (i sy p : Int) (iv kd ta tx fl : Int → Int) : Prop := tx p < sy ∧ ((iv (tx p) = 0 ∧ fl p = -1) ∨ (¬ iv (tx p) = 0 ∧ 0 ≤ fl p ∧ fl p ≤ i ∧ kd (fl p) = 0 ∧ tx (ta (fl p) + 1) = tx p))
/-- a statement's symbols -/
def n_A (i sy : Int) (iv ty bg kd ta ts tx fl : Int → Int) : Prop := (1 ≤ ts i ∧ ts i ≤ 300 ∧ iv (tx (ta i)) = 0 ∧ ¬ bg (tx (ta i)) = 0) ∧ (kd i = 0 → ts i = 2 ∧ fl (ta i + 1) = i ∧ ¬ iv (tx (ta i + 1)) = 0 ∧ ty (tx (ta i + 1)) = tx (ta i)) ∧ ∀ p : Int, ta i ≤ p → p < ta i + ts i → n_P i sy p iv kd ta tx fl
/-- an assertion's frame -/
def n_B (i : Int) (iv kd ta ts tx fl ha hs hy : Int → Int) : Prop := (∀ k : Int, 0 ≤ k → k < hs i → hy (ha i + k) < i ∧ kd (hy (ha i + k)) ≤ 1) ∧ (∀ p : Int, ta i ≤ p → p < ta i + ts i → ¬ iv (tx p) = 0 → ∃ k : Int, 0 ≤ k ∧ k < hs i ∧ hy (ha i + k) = fl p) ∧
  ((∃ k : Int, 0 ≤ k ∧ k < hs i ∧ kd (hy (ha i + k)) = 1) ∨ ∀ k : Int, 0 ≤ k → k < hs i → kd (hy (ha i + k)) = 0 ∧ ∃ p : Int, ta i ≤ p ∧ p < ta i + ts i ∧ tx p = tx (ta (hy (ha i + k)) + 1)) ∧
  ∀ k o : Int, 0 ≤ o → o < k → k < hs i → kd (hy (ha i + o)) = 0 → kd (hy (ha i + k)) = 0 → tx (ta (hy (ha i + o)) + 1) ≠ tx (ta (hy (ha i + k)) + 1)
/-- how long a row is that an assertion makes -/
def n_sz (w : Int) (ta ts tx iv bs : Int → Int) : Int := sm (fun j => if iv (tx (ta w + j)) = 0 then 1 else bs (tx (ta w + j))) (ts w)
def n_bs (w b : Int) (kd ta tx ha hs hy N bs : Int → Int) : Prop := ∀ k : Int, 0 ≤ k → k < hs w → kd (hy (ha w + k)) = 0 → bs (tx (ta (hy (ha w + k)) + 1)) = N (b + k) - 1
/-- what a step takes and makes -/
def n_mk (w P S b n f : Int) (kd ta ts tx iv ha hs hy N F M G : Int → Int) : Prop :=
  (w < 0 ∧ -1 - w < S ∧ b = P ∧ n = M (-1 - w) ∧ f = G (-1 - w)) ∨ (0 ≤ w ∧ kd w < 2 ∧ b = P ∧ n = ts w ∧ f = tx (ta w)) ∨
  (0 ≤ w ∧ 2 ≤ kd w ∧ hs w ≤ P ∧ b = P - hs w ∧ (∀ k : Int, 0 ≤ k → k < hs w → kd (hy (ha w + k)) = 0 → 1 ≤ N (b + k) ∧ F (b + k) = tx (ta (hy (ha w + k)))) ∧ (∃ bs : Int → Int, n_bs w b kd ta tx ha hs hy N bs ∧ n = n_sz w ta ts tx iv bs) ∧ f = tx (ta w))
def n_ok (v b n S : Int) (N M : Int → Int) : Prop := b < 200 ∧ n ≤ 1000 ∧ sm N b + sm M S + n ≤ 40000 ∧ (¬ v = 0 → sm N b + n + sm M S + n ≤ 40000)
def n_nx (v b n f S P' S' : Int) (N F M G N' F' M' G' : Int → Int) : Prop := P' = b + 1 ∧ N' b = n ∧ F' b = f ∧ (∀ j : Int, 0 ≤ j → j < b → N' j = N j ∧ F' j = F j) ∧ (v = 0 → S' = S) ∧ (¬ v = 0 → S' = S + 1 ∧ M' S = n ∧ G' S = f) ∧ ∀ j : Int, 0 ≤ j → j < S → M' j = M j ∧ G' j = G j
/-- a step of a proof that is gone through -/
def n_sT (i w v P S P' S' : Int) (kd ta ts tx iv ha hs hy N F M G N' F' M' G' : Int → Int) : Prop := (w < i ∧ (¬ v = 0 → 0 ≤ w)) ∧ ∃ b n f : Int, n_mk w P S b n f kd ta ts tx iv ha hs hy N F M G ∧ n_ok v b n S N M ∧ n_nx v b n f S P' S' N F M G N' F' M' G'
/-- a proof can be gone through: what stands on the pile and what is saved before each step -/
def n_R (i : Int) (kd ta ts tx iv ha hs hy sa ss sw sv : Int → Int) : Prop := ∃ P S : Int → Int, ∃ N F M G : Int → Int → Int, (1 ≤ ss i ∧ P (sa i) = 0 ∧ S (sa i) = 0 ∧ P (sa i + ss i) = 1) ∧ ∀ k : Int, sa i ≤ k → k < sa i + ss i → n_sT i (sw k) (sv k) (P k) (S k) (P (k + 1)) (S (k + 1)) kd ta ts tx iv ha hs hy (N k) (F k) (M k) (G k) (N (k + 1)) (F (k + 1)) (M (k + 1)) (G (k + 1))
def n_J1 (i : Int) (σ : S0) : Prop := n_A i (σ.1 3) (σ.2.1 8) (σ.2.1 10) (σ.2.1 12) (σ.2.1 13) (σ.2.1 14) (σ.2.1 15) (σ.2.1 16) (σ.2.1 17) ∧ (2 ≤ σ.2.1 13 i → n_B i (σ.2.1 8) (σ.2.1 13) (σ.2.1 14) (σ.2.1 15) (σ.2.1 16) (σ.2.1 17) (σ.2.1 18) (σ.2.1 19) (σ.2.1 20)) ∧ (σ.2.1 13 i = 3 → n_R i (σ.2.1 13) (σ.2.1 14) (σ.2.1 15) (σ.2.1 16) (σ.2.1 8) (σ.2.1 18) (σ.2.1 19) (σ.2.1 20) (σ.2.1 25) (σ.2.1 26) (σ.2.1 27) (σ.2.1 28))
def n_Jn (n : Int) (σ : S0) : Prop := ∀ i : Int, 0 ≤ i → i < n → n_J1 i σ
abbrev n_J (σ : S0) : Prop := n_Jn (σ.1 5) σ
/-- active hypotheses -/
def n_S (σ : S0) : Prop := (∀ k : Int, 0 ≤ k → k < σ.1 13 → σ.2.1 31 k < σ.1 5 ∧ σ.2.1 13 (σ.2.1 31 k) ≤ 1 ∧ (σ.2.1 13 (σ.2.1 31 k) = 0 → σ.2.1 11 (σ.2.1 16 (σ.2.1 14 (σ.2.1 31 k) + 1)) = σ.2.1 31 k)) ∧ (∀ k o : Int, 0 ≤ o → o < k → k < σ.1 13 → σ.2.1 31 o < σ.2.1 31 k) ∧ ∀ s : Int, 0 ≤ s → s < σ.1 3 → ¬ σ.2.1 11 s = -1 → (∃ k : Int, 0 ≤ k ∧ k < σ.1 13 ∧ σ.2.1 31 k = σ.2.1 11 s) ∧ σ.2.1 13 (σ.2.1 11 s) = 0 ∧ σ.2.1 16 (σ.2.1 14 (σ.2.1 11 s) + 1) = s
theorem n_agk {σ τ : S0} {V : List Nat} (g : ag m_gT V σ τ) (k b : Nat) (d : (k, b, (0 : Int)) ∈ m_gT) : ∀ j : Int, j < σ.1 b → τ.2.1 k j = σ.2.1 k j := fun j hj => g.2 (k, b, 0) d j (by show j < σ.1 b + 0; omega)
theorem n_mk_e {w P S b n f i : Int} {kd ta ts tx iv ha hs hy kd' ta' ts' tx' iv' ha' hs' hy' N F M G : Int → Int} (wi : w < i) (e1 : ∀ j : Int, 0 ≤ j → j < i → kd' j = kd j ∧ ta' j = ta j ∧ ts' j = ts j ∧ ha' j = ha j ∧ hs' j = hs j) (et : ∀ j : Int, 0 ≤ j → j < i → ∀ q : Int, 0 ≤ q → q < ts j → tx' (ta j + q) = tx (ta j + q) ∧ iv' (tx (ta j + q)) = iv (tx (ta j + q))) (t1 : ∀ j : Int, 0 ≤ j → j < i → 1 ≤ ts j ∧ (kd j = 0 → ts j = 2)) (eh : ∀ j : Int, 0 ≤ j → j < i → 2 ≤ kd j → ∀ k : Int, 0 ≤ k → k < hs j → hy' (ha j + k) = hy (ha j + k) ∧ 0 ≤ hy (ha j + k) ∧ hy (ha j + k) < j) (h : n_mk w P S b n f kd ta ts tx iv ha hs hy N F M G) : n_mk w P S b n f kd' ta' ts' tx' iv' ha' hs' hy' N F M G := by
  rcases h with h | ⟨h0, h1, h2, h3, h4⟩ | ⟨h0, h1, h2, h3, h4, ⟨bs, h5, h6⟩, h7⟩
  · exact Or.inl h
  · obtain ⟨a1, a2, a3, a4, a5⟩ := e1 w h0 wi
    have t := t1 w h0 wi
    have e0 := (et w h0 wi 0 (Int.le_refl _) (by omega)).1
    rw [show ta w + 0 = ta w by omega] at e0
    exact Or.inr (Or.inl ⟨h0, by rw [a1]; exact h1, h2, by rw [a3]; exact h3, by rw [a2, e0]; exact h4⟩)
  · obtain ⟨a1, a2, a3, a4, a5⟩ := e1 w h0 wi
    have t := t1 w h0 wi
    have e0 := (et w h0 wi 0 (Int.le_refl _) (by omega)).1
    rw [show ta w + 0 = ta w by omega] at e0
    have hh : ∀ k : Int, 0 ≤ k → k < hs w → hy' (ha' w + k) = hy (ha w + k) ∧ kd' (hy (ha w + k)) = kd (hy (ha w + k)) ∧ tx' (ta' (hy (ha w + k))) = tx (ta (hy (ha w + k))) ∧ (kd (hy (ha w + k)) = 0 → tx' (ta' (hy (ha w + k)) + 1) = tx (ta (hy (ha w + k)) + 1)) := fun k k0 k1 => by
      obtain ⟨b1, b2, b3⟩ := eh w h0 wi h1 k k0 k1
      obtain ⟨c1, c2, c3, c4, c5⟩ := e1 _ b2 (by omega)
      have u := t1 _ b2 (by omega)
      have v0 := (et _ b2 (by omega) 0 (Int.le_refl _) (by omega)).1
      rw [show ∀ x : Int, x + 0 = x from fun x => by omega] at v0
      refine ⟨by rw [a4]; exact b1, c1, by rw [c2]; exact v0, fun z => ?_⟩
      rw [c2]
      exact (et _ b2 (by omega) 1 (by omega) (by have := u.2 z; omega)).1
    refine Or.inr (Or.inr ⟨h0, by rw [a1]; exact h1, by rw [a5]; exact h2, by rw [a5]; exact h3, fun k k0 k1 z => ?_, ⟨bs, fun k k0 k1 z => ?_, ?_⟩, by rw [a2, e0]; exact h7⟩)
    · rw [a5] at k1
      obtain ⟨q1, q2, q3, q4⟩ := hh k k0 k1
      rw [q1, q2] at z
      rw [q1, q3]; exact h4 k k0 k1 z
    · rw [a5] at k1
      obtain ⟨q1, q2, q3, q4⟩ := hh k k0 k1
      rw [q1, q2] at z
      rw [q1, q4 z]; exact h5 k k0 k1 z
    · rw [h6]
      unfold n_sz
      rw [a3, a2]
      exact sm_x (fun q q0 q1 => by
        obtain ⟨r1, r2⟩ := et w h0 wi q q0 q1
        show (if iv (tx (ta w + q)) = 0 then (1 : Int) else bs (tx (ta w + q))) = (if iv' (tx' (ta w + q)) = 0 then (1 : Int) else bs (tx' (ta w + q)))
        rw [r1, r2])
/-- what is known of statements holds as long as what stands below the counts does -/
theorem n_J_x {σ τ : S0} (h : n_J σ) (mj : m_J σ) (g : ag m_gT [3, 5] σ τ) (r : n_rl σ τ) (sv : j_eq (σ.1 9) (σ.2.1 28) (τ.2.1 28)) (hT : m_T σ) : n_Jn (σ.1 5) τ := by
  have v3 := g.1 3 (by decide); have v5 := g.1 5 (by decide)
  have k13 := n_agk g 13 5 (by decide); have k14 := n_agk g 14 5 (by decide); have k15 := n_agk g 15 5 (by decide); have k16 := n_agk g 16 6 (by decide); have k17 := n_agk g 17 6 (by decide)
  have k18 := n_agk g 18 5 (by decide); have k19 := n_agk g 19 5 (by decide); have k20 := n_agk g 20 7 (by decide); have k25 := n_agk g 25 5 (by decide); have k26 := n_agk g 26 5 (by decide); have k27 := n_agk g 27 9 (by decide); have k8 := n_agk g 8 3 (by decide)
  have n14 : ∀ j, 0 ≤ σ.2.1 14 j := fun j => (hT.2 14 j).1
  have n15 : ∀ j, 0 ≤ σ.2.1 15 j := fun j => (hT.2 15 j).1
  have n16 : ∀ j, 0 ≤ σ.2.1 16 j := fun j => (hT.2 16 j).1
  have n20 : ∀ j, 0 ≤ σ.2.1 20 j := fun j => (hT.2 20 j).1
  have tu : ∀ j : Int, 0 ≤ j → j < σ.1 5 → σ.2.1 14 j + σ.2.1 15 j ≤ σ.1 6 ∧ σ.2.1 18 j + σ.2.1 19 j ≤ σ.1 7 ∧ σ.2.1 25 j + σ.2.1 26 j ≤ σ.1 9 := fun j j0 j1 => by have w := (mj j j0 j1).1; omega
  have et : ∀ j : Int, 0 ≤ j → j < σ.1 5 → ∀ q : Int, 0 ≤ q → q < σ.2.1 15 j → τ.2.1 16 (σ.2.1 14 j + q) = σ.2.1 16 (σ.2.1 14 j + q) ∧ τ.2.1 17 (σ.2.1 14 j + q) = σ.2.1 17 (σ.2.1 14 j + q) ∧ τ.2.1 8 (σ.2.1 16 (σ.2.1 14 j + q)) = σ.2.1 8 (σ.2.1 16 (σ.2.1 14 j + q)) := fun j j0 j1 q q0 q1 => by
    have w := tu j j0 j1
    have p := ((h j j0 j1).1.2.2 (σ.2.1 14 j + q) (by omega) (by omega)).1
    exact ⟨k16 _ (by omega), k17 _ (by omega), k8 _ p⟩
  have e1 : ∀ j : Int, 0 ≤ j → j < σ.1 5 → τ.2.1 13 j = σ.2.1 13 j ∧ τ.2.1 14 j = σ.2.1 14 j ∧ τ.2.1 15 j = σ.2.1 15 j ∧ τ.2.1 18 j = σ.2.1 18 j ∧ τ.2.1 19 j = σ.2.1 19 j := fun j _ j1 => ⟨k13 j j1, k14 j j1, k15 j j1, k18 j j1, k19 j j1⟩
  have t1 : ∀ j : Int, 0 ≤ j → j < σ.1 5 → 1 ≤ σ.2.1 15 j ∧ (σ.2.1 13 j = 0 → σ.2.1 15 j = 2) := fun j j0 j1 => ⟨(h j j0 j1).1.1.1, fun z => ((h j j0 j1).1.2.1 z).1⟩
  have eh : ∀ j : Int, 0 ≤ j → j < σ.1 5 → 2 ≤ σ.2.1 13 j → ∀ k : Int, 0 ≤ k → k < σ.2.1 19 j → τ.2.1 20 (σ.2.1 18 j + k) = σ.2.1 20 (σ.2.1 18 j + k) ∧ 0 ≤ σ.2.1 20 (σ.2.1 18 j + k) ∧ σ.2.1 20 (σ.2.1 18 j + k) < j := fun j j0 j1 z k k0 k1 => by
    have w := tu j j0 j1
    exact ⟨k20 _ (by omega), n20 _, (((h j j0 j1).2.1 z).1 k k0 k1).1⟩
  have x2 : ∀ f : Int, 0 ≤ f → f < σ.1 5 → σ.2.1 13 f = 0 → τ.2.1 13 f = 0 ∧ τ.2.1 16 (τ.2.1 14 f + 1) = σ.2.1 16 (σ.2.1 14 f + 1) := fun f f0 f1 z => by
    have w := t1 f f0 f1
    refine ⟨by rw [k13 f f1]; exact z, ?_⟩
    rw [k14 f f1]; exact (et f f0 f1 1 (by omega) (by have := w.2 z; omega)).1
  intro i i0 i1
  obtain ⟨⟨⟨a1, a2, a3, a4⟩, a5, a6⟩, hB, hC⟩ := h i i0 i1
  obtain ⟨c13, c14, c15, c18, c19⟩ := e1 i i0 i1
  obtain ⟨u1, u2, u3⟩ := tu i i0 i1
  have f0 := et i i0 i1 0 (Int.le_refl _) (by omega)
  rw [show σ.2.1 14 i + 0 = σ.2.1 14 i by omega] at f0
  have p0 := (a6 (σ.2.1 14 i) (Int.le_refl _) (by omega)).1
  refine ⟨⟨⟨by rw [c15]; exact a1, by rw [c15]; exact a2, ?_, ?_⟩, fun z => ?_, fun p p1 p2 => ?_⟩, fun z => ?_, fun z => ?_⟩
  · rw [c14, f0.1, f0.2.2]; exact a3
  · rw [c14, f0.1]; exact r.2.1 _ (n16 _) p0 a4
  · rw [c13] at z
    obtain ⟨b1, b2, b3, b4⟩ := a5 z
    have f1 := et i i0 i1 1 (by omega) (by omega)
    have p1 := (a6 (σ.2.1 14 i + 1) (by omega) (by omega)).1
    rw [c14, c15, f1.1, f1.2.1, f1.2.2, f0.1]
    exact ⟨b1, b2, b3, by rw [r.1 _ (n16 _) p1 (by rw [b4]; have := n16 (σ.2.1 14 i); omega)]; exact b4⟩
  · rw [c14] at p1 p2; rw [c15] at p2
    have w := a6 p p1 p2
    have q := et i i0 i1 (p - σ.2.1 14 i) (by omega) (by omega)
    rw [show σ.2.1 14 i + (p - σ.2.1 14 i) = p by omega] at q
    unfold n_P
    rw [q.1, q.2.1, q.2.2]
    refine ⟨by have := w.1; omega, ?_⟩
    rcases w.2 with y | ⟨y1, y2, y3, y4, y5⟩
    · exact Or.inl y
    · have v := x2 _ y2 (by omega) y4
      exact Or.inr ⟨y1, y2, y3, v.1, v.2.trans y5⟩
  · rw [c13] at z
    obtain ⟨b1, b2, b3, b4⟩ := hB z
    have hk : ∀ k : Int, 0 ≤ k → k < σ.2.1 19 i → τ.2.1 20 (τ.2.1 18 i + k) = σ.2.1 20 (σ.2.1 18 i + k) ∧ τ.2.1 13 (σ.2.1 20 (σ.2.1 18 i + k)) = σ.2.1 13 (σ.2.1 20 (σ.2.1 18 i + k)) ∧ (σ.2.1 13 (σ.2.1 20 (σ.2.1 18 i + k)) = 0 → τ.2.1 16 (τ.2.1 14 (σ.2.1 20 (σ.2.1 18 i + k)) + 1) = σ.2.1 16 (σ.2.1 14 (σ.2.1 20 (σ.2.1 18 i + k)) + 1)) := fun k k0 k1 => by
      have w := eh i i0 i1 z k k0 k1
      rw [c18]
      exact ⟨w.1, k13 _ (by omega), fun y => (x2 _ w.2.1 (by omega) y).2⟩
    refine ⟨fun k k0 k1 => ?_, fun p p1 p2 y => ?_, ?_, fun k o o0 ok k1 y1 y2 => ?_⟩
    · rw [c19] at k1
      have w := hk k k0 k1
      rw [w.1, w.2.1]; exact b1 k k0 k1
    · rw [c14] at p1 p2; rw [c15] at p2
      have q := et i i0 i1 (p - σ.2.1 14 i) (by omega) (by omega)
      rw [show σ.2.1 14 i + (p - σ.2.1 14 i) = p by omega] at q
      rw [q.1, q.2.2] at y
      obtain ⟨k, k0, k1, k2⟩ := b2 p p1 p2 y
      exact ⟨k, k0, by rw [c19]; exact k1, by rw [(hk k k0 k1).1, q.2.1]; exact k2⟩
    · rcases b3 with ⟨k, k0, k1, k2⟩ | b3
      · exact Or.inl ⟨k, k0, by rw [c19]; exact k1, by rw [(hk k k0 k1).1, (hk k k0 k1).2.1]; exact k2⟩
      · refine Or.inr (fun k k0 k1 => ?_)
        rw [c19] at k1
        have w := hk k k0 k1
        obtain ⟨d1, p, d2, d3, d4⟩ := b3 k k0 k1
        have q := et i i0 i1 (p - σ.2.1 14 i) (by omega) (by omega)
        rw [show σ.2.1 14 i + (p - σ.2.1 14 i) = p by omega] at q
        rw [w.1, w.2.1, w.2.2 d1, c14, c15]
        exact ⟨d1, p, d2, d3, by rw [q.1]; exact d4⟩
    · rw [c19] at k1
      have w1 := hk k (by omega) k1
      have w2 := hk o o0 (by omega)
      rw [w2.1, w2.2.1] at y1
      rw [w1.1, w1.2.1] at y2
      rw [w1.1, w2.1, w1.2.2 y2, w2.2.2 y1]
      exact b4 k o o0 ok k1 y1 y2
  · rw [c13] at z
    obtain ⟨P, S, N, F, M, G, ⟨s1, s2, s3, s4⟩, s5⟩ := hC z
    have c25 := k25 i i1; have c26 := k26 i i1
    refine ⟨P, S, N, F, M, G, ⟨by rw [c26]; exact s1, by rw [c25]; exact s2, by rw [c25]; exact s3, by rw [c25, c26]; exact s4⟩, fun k d0 d1 => ?_⟩
    rw [c25] at d0 d1; rw [c26] at d1
    rw [k27 k (by omega), sv k (by omega)]
    obtain ⟨w1, b, n, f, w2, w3, w4⟩ := s5 k d0 d1
    exact ⟨w1, b, n, f, n_mk_e w1.1 (fun j j0 j1 => e1 j j0 (by omega)) (fun j j0 j1 q q0 q1 => ⟨(et j j0 (by omega) q q0 q1).1, (et j j0 (by omega) q q0 q1).2.2⟩) (fun j j0 j1 => t1 j j0 (by omega)) (fun j j0 j1 => eh j j0 (by omega)) w2, w3, w4⟩
theorem n_J_a {n : Int} {σ : S0} (h : n_Jn n σ) (a : n_J1 n σ) : n_Jn (n + 1) σ := fun i i0 i1 => by
  rcases (by omega : i < n ∨ i = n) with q | q
  · exact h i i0 q
  · rw [q]; exact a
theorem n_J_g {n : Int} {σ τ : S0} (h : n_Jn n σ) (w3 : τ.1 3 = σ.1 3) (g : ∀ k, k ∈ [8, 10, 12, 13, 14, 15, 16, 17, 18, 19, 20, 25, 26, 27, 28] → τ.2.1 k = σ.2.1 k) : n_Jn n τ := fun i i0 i1 => by
  unfold n_J1
  rw [w3, g 8 (by decide), g 10 (by decide), g 12 (by decide), g 13 (by decide), g 14 (by decide), g 15 (by decide), g 16 (by decide), g 17 (by decide), g 18 (by decide), g 19 (by decide), g 20 (by decide), g 25 (by decide), g 26 (by decide), g 27 (by decide), g 28 (by decide)]
  exact h i i0 i1
theorem n_J_h {n : Int} {σ τ : S0} {wv wa wb : List Nat} (h : n_Jn n σ) (hf : f_r wv wa wb σ τ) (d1 : [3].all (fun i => !wv.contains i) = true) (d2 : [8, 10, 12, 13, 14, 15, 16, 17, 18, 19, 20, 25, 26, 27, 28].all (fun i => !wa.contains i) = true) : n_Jn n τ :=
  n_J_g h (hf.1 3 (n_fl d1 3 (by decide))) (fun k hk => hf.2.1 k (n_fl d2 k hk))
/-- active hypotheses: as long as what stands below the counts stays -/
theorem n_S_x {σ τ : S0} (h : n_S σ) (hj : n_J σ) (mj : m_J σ) (hT : m_T σ) (g : ag m_gT [3, 5] σ τ) (w13 : τ.1 13 = σ.1 13) (g31 : ∀ k : Int, 0 ≤ k → k < σ.1 13 → τ.2.1 31 k = σ.2.1 31 k) (e11 : ∀ s : Int, 0 ≤ s → s < σ.1 3 → τ.2.1 11 s = σ.2.1 11 s) (n11 : ∀ s : Int, σ.1 3 ≤ s → s < τ.1 3 → τ.2.1 11 s = -1) : n_S τ := by
  have v3 := g.1 3 (by decide); have v5 := g.1 5 (by decide)
  have k13 := n_agk g 13 5 (by decide); have k14 := n_agk g 14 5 (by decide); have k16 := n_agk g 16 6 (by decide)
  have n31 : ∀ j, 0 ≤ σ.2.1 31 j := fun j => (hT.2 31 j).1
  have n16 : ∀ j, 0 ≤ σ.2.1 16 j := fun j => (hT.2 16 j).1
  obtain ⟨h1, h2, h3⟩ := h
  have x2 : ∀ f : Int, 0 ≤ f → f < σ.1 5 → σ.2.1 13 f = 0 → τ.2.1 16 (τ.2.1 14 f + 1) = σ.2.1 16 (σ.2.1 14 f + 1) ∧ σ.2.1 16 (σ.2.1 14 f + 1) < σ.1 3 := fun f f0 f1 z => by
    have w := (hj f f0 f1).1
    have w2 := (w.2.1 z).1
    have m := (mj f f0 f1).1
    exact ⟨by rw [k14 f f1, k16 _ (by omega)], (w.2.2 (σ.2.1 14 f + 1) (by omega) (by omega)).1⟩
  refine ⟨fun k k0 k1 => ?_, fun k o o0 ok k1 => ?_, fun s s0 s1 z => ?_⟩
  · rw [w13] at k1
    obtain ⟨a1, a2, a3⟩ := h1 k k0 k1
    rw [g31 k k0 k1, k13 _ a1]
    refine ⟨by omega, a2, fun z => ?_⟩
    have w := x2 _ (n31 k) a1 z
    rw [w.1, e11 _ (n16 _) w.2]; exact a3 z
  · rw [w13] at k1; rw [g31 k (by omega) k1, g31 o o0 (by omega)]; exact h2 k o o0 ok k1
  · rcases (by omega : s < σ.1 3 ∨ σ.1 3 ≤ s) with q | q
    · rw [e11 s s0 q] at z
      obtain ⟨⟨k, k0, k1, k2⟩, b2, b3⟩ := h3 s s0 q z
      have a1 := (h1 k k0 k1).1
      rw [e11 s s0 q, w13, ← k2, k13 _ a1, (x2 _ (n31 k) a1 (by rw [k2]; exact b2)).1]
      refine ⟨⟨k, k0, k1, g31 k k0 k1⟩, by rw [k2]; exact b2, by rw [k2]; exact b3⟩
    · exact absurd (n11 s q s1) z
theorem n_ag5 {σ τ : S0} (g : m_ag σ τ) : ag m_gT [3, 5] σ τ := ⟨fun i hi => g.1 i (by revert hi; simp; omega), g.2⟩
theorem n_J_ag {σ τ : S0} (h : n_J σ) (mj : m_J σ) (g : m_ag σ τ) (r : n_rl σ τ) (sv : j_eq (σ.1 9) (σ.2.1 28) (τ.2.1 28)) (hT : m_T σ) : n_Jn (σ.1 5) τ := n_J_x h mj (n_ag5 g) r sv hT
theorem n_S_ag {σ τ : S0} (h : n_S σ) (hj : n_J σ) (mj : m_J σ) (hT : m_T σ) (g : m_ag σ τ) (w13 : τ.1 13 = σ.1 13) (g31 : τ.2.1 31 = σ.2.1 31) (e11 : ∀ s : Int, 0 ≤ s → s < σ.1 3 → τ.2.1 11 s = σ.2.1 11 s) (n11 : ∀ s : Int, σ.1 3 ≤ s → s < τ.1 3 → τ.2.1 11 s = -1) : n_S τ := n_S_x h hj mj hT (n_ag5 g) w13 (fun k _ _ => by rw [g31]) e11 n11
/-- active hypotheses below a mark stay -/
def n_h (H : Int) (f : Int → Int) (σ : S0) : Prop := H ≤ σ.1 13 ∧ (∀ d : Int, 0 ≤ d → d < σ.1 15 → H ≤ σ.2.1 35 d) ∧ ∀ k : Int, 0 ≤ k → k < H → σ.2.1 31 k = f k
def n_hk (σ τ : S0) : Prop := ∀ (H : Int) (f : Int → Int), n_h H f σ → n_h H f τ
theorem n_hk_0 (σ : S0) : n_hk σ σ := fun _ _ h => h
theorem n_hk_t {σ τ υ : S0} (a : n_hk σ τ) (b : n_hk τ υ) : n_hk σ υ := fun H f h => b H f (a H f h)
theorem n_hk_g {σ τ : S0} (w13 : τ.1 13 = σ.1 13) (w15 : τ.1 15 = σ.1 15) (g31 : τ.2.1 31 = σ.2.1 31) (g35 : τ.2.1 35 = σ.2.1 35) : n_hk σ τ := fun H f h => by
  unfold n_h; rw [w13, w15, g31, g35]; exact h
theorem n_hk_h {σ τ : S0} {wv wa wb : List Nat} (hf : f_r wv wa wb σ τ) (d1 : [13, 15].all (fun i => !wv.contains i) = true) (d2 : [31, 35].all (fun i => !wa.contains i) = true) : n_hk σ τ := n_hk_g (hf.1 13 (n_fl d1 13 (by decide))) (hf.1 15 (n_fl d1 15 (by decide))) (hf.2.1 31 (n_fl d2 31 (by decide))) (hf.2.1 35 (n_fl d2 35 (by decide)))
theorem n_hk_r {σ τ υ : S0} {wv wa wb : List Nat} (a : n_hk σ τ) (hf : f_r wv wa wb τ υ) (d1 : [13, 15].all (fun i => !wv.contains i) = true) (d2 : [31, 35].all (fun i => !wa.contains i) = true) : n_hk σ υ := n_hk_t a (n_hk_h hf d1 d2)
theorem n_hk_a {σ τ : S0} {x : Int} (w13 : τ.1 13 = σ.1 13 + 1) (w15 : τ.1 15 = σ.1 15) (g31 : τ.2.1 31 = st (σ.2.1 31) (σ.1 13) x) (g35 : τ.2.1 35 = σ.2.1 35) : n_hk σ τ := fun H f h => by
  obtain ⟨h1, h2, h3⟩ := h
  unfold n_h; rw [w13, w15, g31, g35]
  exact ⟨by omega, h2, fun k k0 k1 => by rw [st_n _ _ (by omega)]; exact h3 k k0 k1⟩
/-- a scope begins -/
theorem n_hk_o {σ τ : S0} (w13 : τ.1 13 = σ.1 13) (w15 : τ.1 15 = σ.1 15 + 1) (g31 : τ.2.1 31 = σ.2.1 31) (g35 : τ.2.1 35 = st (σ.2.1 35) (σ.1 15) (σ.1 13)) : n_hk σ τ := fun H f h => by
  obtain ⟨h1, h2, h3⟩ := h
  unfold n_h; rw [w13, w15, g31, g35]
  refine ⟨h1, fun d d0 d1 => ?_, h3⟩
  rcases (by omega : d < σ.1 15 ∨ d = σ.1 15) with q | q
  · rw [st_n _ _ (by omega)]; exact h2 d d0 q
  · rw [q, st_s]; exact h1
/-- a scope ends -/
theorem n_hk_c {σ τ : S0} (o : 0 < σ.1 15) (w13 : τ.1 13 = σ.1 13 ∨ τ.1 13 = σ.2.1 35 (σ.1 15 - 1)) (w15 : τ.1 15 = σ.1 15 - 1) (g31 : τ.2.1 31 = σ.2.1 31) (g35 : τ.2.1 35 = σ.2.1 35) : n_hk σ τ := fun H f h => by
  obtain ⟨h1, h2, h3⟩ := h
  have w := h2 (σ.1 15 - 1) (by omega) (by omega)
  unfold n_h; rw [w15, g31, g35]
  exact ⟨by omega, fun d d0 d1 => h2 d d0 (by omega), h3⟩
/-- an active hypothesis less -/
theorem n_S_d {σ τ : S0} (h : n_S σ) (c : 0 < σ.1 13) (w3 : τ.1 3 = σ.1 3) (w5 : τ.1 5 = σ.1 5) (w13 : τ.1 13 = σ.1 13 - 1) (g13 : τ.2.1 13 = σ.2.1 13) (g14 : τ.2.1 14 = σ.2.1 14) (g16 : τ.2.1 16 = σ.2.1 16) (g31 : τ.2.1 31 = σ.2.1 31) (g11 : (¬ σ.2.1 13 (σ.2.1 31 (σ.1 13 - 1)) = 0 ∧ τ.2.1 11 = σ.2.1 11) ∨ (σ.2.1 13 (σ.2.1 31 (σ.1 13 - 1)) = 0 ∧ τ.2.1 11 = st (σ.2.1 11) (σ.2.1 16 (σ.2.1 14 (σ.2.1 31 (σ.1 13 - 1)) + 1)) (-1))) : n_S τ := by
  obtain ⟨h1, h2, h3⟩ := h
  unfold n_S
  rw [w3, w5, w13, g13, g14, g16, g31]
  refine ⟨fun k k0 k1 => ?_, fun k o o0 ok k1 => h2 k o o0 ok (by omega), fun s s0 s1 z => ?_⟩
  · obtain ⟨a1, a2, a3⟩ := h1 k k0 (by omega)
    refine ⟨a1, a2, fun y => ?_⟩
    rcases g11 with ⟨_, e⟩ | ⟨y2, e⟩
    · rw [e]; exact a3 y
    · have b := (h1 (σ.1 13 - 1) (by omega) (by omega)).2.2 y2
      have l := h2 (σ.1 13 - 1) k k0 (by omega) (by omega)
      have n : σ.2.1 16 (σ.2.1 14 (σ.2.1 31 k) + 1) ≠ σ.2.1 16 (σ.2.1 14 (σ.2.1 31 (σ.1 13 - 1)) + 1) := fun q => by
        have a := a3 y
        rw [q, b] at a; omega
      rw [e, st_n _ _ n]; exact a3 y
  · have key : ¬ σ.2.1 11 s = -1 ∧ τ.2.1 11 s = σ.2.1 11 s ∧ (σ.2.1 13 (σ.2.1 31 (σ.1 13 - 1)) = 0 → s ≠ σ.2.1 16 (σ.2.1 14 (σ.2.1 31 (σ.1 13 - 1)) + 1)) := by
      rcases g11 with ⟨y, e⟩ | ⟨y, e⟩
      · rw [e] at z ⊢; exact ⟨z, rfl, fun q => absurd q y⟩
      · by_cases q : s = σ.2.1 16 (σ.2.1 14 (σ.2.1 31 (σ.1 13 - 1)) + 1)
        · rw [e, q, st_s] at z; exact absurd rfl z
        · rw [e, st_n _ _ q] at z ⊢; exact ⟨z, rfl, fun _ => q⟩
    obtain ⟨z1, z2, z3⟩ := key
    obtain ⟨⟨k, k0, k1, k2⟩, b2, b3⟩ := h3 s s0 s1 z1
    rw [z2]
    refine ⟨⟨k, k0, ?_, k2⟩, b2, b3⟩
    rcases (by omega : k < σ.1 13 - 1 ∨ k = σ.1 13 - 1) with q | q
    · exact q
    · rw [q] at k2
      exact absurd b3.symm (by rw [← k2]; exact z3 (by rw [k2]; exact b2))
