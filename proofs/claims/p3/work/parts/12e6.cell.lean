-- pure: a cell of the model's chart
def y_W1 (sy : Int) (so wy : Int → Int) (t p q : Int) : Prop := (0 ≤ t ∧ t < sy ∧ 0 ≤ so t) ∧ 1 ≤ wy ((so t * 61 + p) * 61 + q)
def y_W2 (sy : Int) (so wy : Int → Int) (t p q : Int) : Prop := (0 ≤ t ∧ t < sy ∧ 0 ≤ so t) ∧ 2 ≤ wy ((so t * 61 + p) * 61 + q)
theorem y_W21 (sy : Int) (so wy : Int → Int) : ∀ t p q : Int, y_W2 sy so wy t p q → y_W1 sy so wy t p q := fun t p q h => ⟨h.1, by have := h.2; omega⟩
/-- a rule's node that is one variable alone -/
def y_FV (up sp : Int → Int) (x : Int) : Prop := 1 ≤ up x ∧ up (up x) = 0 ∧ sp x < 0
/-- fronts up to a place -/
def y_Fr (N lim i j : Int) (D : Int → Prop) (row : Int → Int) (W V : Int → Int → Int → Prop) (up sp le : Int → Int) (a b : Int → Int64) : Prop := ∀ x : Int, 1 ≤ x → x < N → le x < lim → ∀ (k : Nat) (hd : Int) (f : Int → Int), y_pt up sp hd f k x → ∀ q : Int, 0 ≤ q → q < 64 → (j_b (a x) q ↔ (q < j ∨ (q = j ∧ D x)) ∧ y_p1 row W f i k q) ∧ (j_b (b x) q ↔ (q < j ∨ (q = j ∧ D x)) ∧ y_p2 row W V f i k q)
/-- where what ends at a place begins -/
def y_St (sy len i J : Int) (so : Int → Int) (W V : Int → Int → Int → Prop) (s1 s2 : Int → Int64) : Prop := ∀ t : Int, 0 ≤ t → t < sy → 0 ≤ so t → ∀ q : Int, 0 ≤ q → q ≤ len → ∀ p : Int, 0 ≤ p → p < 64 → (j_b (s1 (61 * so t + q)) p ↔ ((i < p ∨ (p = i ∧ q ≤ J)) ∧ p < q) ∧ W t p q) ∧ (j_b (s2 (61 * so t + q)) p ↔ ((i < p ∨ (p = i ∧ q ≤ J)) ∧ p < q) ∧ V t p q)
section
variable {sy len lim N i j J : Int} {so row up sp le : Int → Int} {W V : Int → Int → Int → Prop} {s1 s2 : Int → Int64} {a b : Int → Int64} {D : Int → Prop}
theorem y_Fr_g (St : y_St sy len i J so W V s1 s2) (vw : ∀ t p q : Int, V t p q → W t p q) (wr : ∀ t p q : Int, W t p q → 0 ≤ t ∧ t < sy ∧ 0 ≤ so t) (h : y_Fr N lim i j D row W V up sp le a b) (i0 : 0 ≤ i) (ij : i < j) (jl : j ≤ len) (l59 : len ≤ 59) {x : Int} (x1 : 1 ≤ x) (xN : x < N) (lx : le x < lim) (u1 : 1 ≤ up x) (uN : up x < N) (ul : le (up x) ≤ le x) (fv : ¬ y_FV up sp x ∨ j ≤ J) (ty : sp x < 0 → 0 ≤ -2 - sp x ∧ -2 - sp x < sy) {k : Nat} {hd : Int} {f : Int → Int} (hp : y_pt up sp hd f k x) :
    (y_g1 j (sp x) (so (-2 - sp x)) row (a (up x)) s1 ↔ y_p1 row W f i k j) ∧ (y_g2 j (sp x) (so (-2 - sp x)) row (a (up x)) (b (up x)) s1 s2 ↔ y_p2 row W V f i k j) := by
  cases k with
  | zero => have := hp.2.1; omega
  | succ k =>
    obtain ⟨_, ef, hq⟩ := hp
    have A : ∀ p : Int, 0 ≤ p → p < j → (j_b (a (up x)) p ↔ y_p1 row W f i k p) ∧ (j_b (b (up x)) p ↔ y_p2 row W V f i k p) := fun p p0 p1 => by
      have w := h (up x) u1 uN (by omega) k hd f hq p p0 (by omega)
      exact ⟨w.1.trans ⟨fun z => z.2, fun z => ⟨Or.inl p1, z⟩⟩, w.2.trans ⟨fun z => z.2, fun z => ⟨Or.inl p1, z⟩⟩⟩
    have kp : ∀ p : Int, y_p1 row W f i k p → sp x < 0 → i < p ∨ (p = i ∧ j ≤ J) := fun p hh s0 => by
      have l := y_p1_l k p hh
      rcases (by omega : i < p ∨ (p = i ∧ k = 0)) with z | ⟨z, z2⟩
      · exact Or.inl z
      · refine Or.inr ⟨z, fv.elim (fun g => absurd ⟨u1, ?_, s0⟩ g) id⟩
        subst z2
        exact hq.2.1
    have S : sp x < 0 → 0 ≤ so (-2 - sp x) → ∀ p : Int, 0 ≤ p → p < 64 → (j_b (s1 (61 * so (-2 - sp x) + j)) p ↔ ((i < p ∨ (p = i ∧ j ≤ J)) ∧ p < j) ∧ W (-2 - sp x) p j) ∧ (j_b (s2 (61 * so (-2 - sp x) + j)) p ↔ ((i < p ∨ (p = i ∧ j ≤ J)) ∧ p < j) ∧ V (-2 - sp x) p j) := fun s0 o p p0 p1 => St (-2 - sp x) (ty s0).1 (ty s0).2 o j (by omega) jl p p0 p1
    have P0 : ∀ p : Int, y_p1 row W f i k p → 0 ≤ p := fun p hh => by have := y_p1_l k p hh; omega
    constructor
    · constructor
      · rintro (⟨c1, c2, c3⟩ | ⟨c1, c2, p, hp, c3, c4⟩)
        · exact Or.inl ⟨by omega, ij, by omega, (A (j - 1) (by omega) (by omega)).1.mp c3⟩
        · have s := (S c1 c2 p hp.1 hp.2).1.mp c4
          refine Or.inr ⟨by omega, p, ⟨?_, s.1.2⟩, (A p hp.1 s.1.2).1.mp c3, by rw [← ef]; exact s.2⟩
          rcases s.1.1 with z | z <;> omega
      · rintro (⟨c1, c2, c3, c4⟩ | ⟨c1, p, hp, c3, c4⟩)
        · exact Or.inl ⟨by omega, by omega, (A (j - 1) (by omega) (by omega)).1.mpr c4⟩
        · rw [← ef] at c4
          refine Or.inr ⟨by omega, (wr _ _ _ c4).2.2, p, ⟨by omega, by omega⟩, (A p (by omega) hp.2).1.mpr c3, (S (by omega) (wr _ _ _ c4).2.2 p (by omega) (by omega)).1.mpr ⟨⟨kp p c3 (by omega), hp.2⟩, c4⟩⟩
    · constructor
      · rintro (⟨c1, c2, c3, c4⟩ | ⟨c1, c2, ⟨p, hp, ⟨c3, c4⟩ | ⟨c3, c4⟩⟩ | ⟨p, o, hp, ⟨c3, c4⟩, c5, c6⟩⟩)
        · exact Or.inl ⟨by omega, ij, by omega, (A (j - 1) (by omega) (by omega)).2.mp c4⟩
        · have s := (S c1 c2 p hp.1 hp.2).1.mp c4
          exact Or.inr ⟨by omega, Or.inl ⟨p, ⟨by rcases s.1.1 with z | z <;> omega, s.1.2⟩, Or.inl ⟨(A p hp.1 s.1.2).2.mp c3, by rw [← ef]; exact s.2⟩⟩⟩
        · have s := (S c1 c2 p hp.1 hp.2).2.mp c4
          exact Or.inr ⟨by omega, Or.inl ⟨p, ⟨by rcases s.1.1 with z | z <;> omega, s.1.2⟩, Or.inr ⟨(A p hp.1 s.1.2).1.mp c3, by rw [← ef]; exact s.2⟩⟩⟩
        · have s := (S c1 c2 p hp.1 (by omega)).1.mp c4
          have r := (S c1 c2 o (by omega) hp.2.2).1.mp c6
          exact Or.inr ⟨by omega, Or.inr ⟨p, o, ⟨by rcases s.1.1 with z | z <;> omega, hp.2.1, r.1.2⟩, ⟨(A p hp.1 s.1.2).1.mp c3, by rw [← ef]; exact s.2⟩, (A o (by omega) r.1.2).1.mp c5, by rw [← ef]; exact r.2⟩⟩
      · rintro (⟨c1, c2, c3, c4⟩ | ⟨c1, ⟨p, hp, ⟨c3, c4⟩ | ⟨c3, c4⟩⟩ | ⟨p, o, hp, ⟨c3, c4⟩, c5, c6⟩⟩)
        · have w := (A (j - 1) (by omega) (by omega)).2.mpr c4
          exact Or.inl ⟨by omega, by omega, (A (j - 1) (by omega) (by omega)).1.mpr (y_p21 vw k _ c4), w⟩
        · rw [← ef] at c4
          exact Or.inr ⟨by omega, (wr _ _ _ c4).2.2, Or.inl ⟨p, ⟨by omega, by omega⟩, Or.inl ⟨(A p (by omega) hp.2).2.mpr c3, (S (by omega) (wr _ _ _ c4).2.2 p (by omega) (by omega)).1.mpr ⟨⟨kp p (y_p21 vw k p c3) (by omega), hp.2⟩, c4⟩⟩⟩⟩
        · rw [← ef] at c4
          exact Or.inr ⟨by omega, (wr _ _ _ (vw _ _ _ c4)).2.2, Or.inl ⟨p, ⟨by omega, by omega⟩, Or.inr ⟨(A p (by omega) hp.2).1.mpr c3, (S (by omega) (wr _ _ _ (vw _ _ _ c4)).2.2 p (by omega) (by omega)).2.mpr ⟨⟨kp p c3 (by omega), hp.2⟩, c4⟩⟩⟩⟩
        · rw [← ef] at c4 c6
          exact Or.inr ⟨by omega, (wr _ _ _ c4).2.2, Or.inr ⟨p, o, ⟨by omega, by omega, by omega⟩, ⟨(A p (by omega) (by omega)).1.mpr c3, (S (by omega) (wr _ _ _ c4).2.2 p (by omega) (by omega)).1.mpr ⟨⟨kp p c3 (by omega), by omega⟩, c4⟩⟩, (A o (by omega) hp.2.2).1.mpr c5, (S (by omega) (wr _ _ _ c4).2.2 o (by omega) (by omega)).1.mpr ⟨⟨kp o c5 (by omega), hp.2.2⟩, c6⟩⟩⟩
/-- one node more -/
theorem y_Fr_s (St : y_St sy len i J so W V s1 s2) (vw : ∀ t p q : Int, V t p q → W t p q) (wr : ∀ t p q : Int, W t p q → 0 ≤ t ∧ t < sy ∧ 0 ≤ so t) (h : y_Fr N lim i j D row W V up sp le a b) (i0 : 0 ≤ i) (ij : i < j) (jl : j ≤ len) (l59 : len ≤ 59) {x : Int} (x1 : 1 ≤ x) (xN : x < N) (lx : le x < lim) (u1 : 1 ≤ up x) (uN : up x < N) (ul : le (up x) ≤ le x) (fv : ¬ y_FV up sp x ∨ j ≤ J) (ty : sp x < 0 → 0 ≤ -2 - sp x ∧ -2 - sp x < sy) {a' b' : Int → Int64} (g : y_gt x j (y_g1 j (sp x) (so (-2 - sp x)) row (a (up x)) s1) (y_g2 j (sp x) (so (-2 - sp x)) row (a (up x)) (b (up x)) s1 s2) a b a' b') : y_Fr N lim i j (fun z => D z ∨ z = x) row W V up sp le a' b' := fun z z1 zN lz k hd f hp q q0 q1 => by
  have w := h z z1 zN lz k hd f hp q q0 q1
  by_cases e : z = x
  · subst e
    obtain ⟨g1, g2⟩ := y_Fr_g St vw wr h i0 ij jl l59 x1 xN lx u1 uN ul fv ty hp
    obtain ⟨v1, v2⟩ := g.2 q q0 q1
    rw [v1, v2, w.1, w.2, g1, g2]
    refine ⟨⟨?_, ?_⟩, ⟨?_, ?_⟩⟩
    · rintro (⟨c | c, d⟩ | ⟨c, d⟩)
      · exact ⟨Or.inl c, d⟩
      · exact ⟨Or.inr ⟨c.1, Or.inl c.2⟩, d⟩
      · exact ⟨Or.inr ⟨c, Or.inr rfl⟩, by rw [c]; exact d⟩
    · rintro ⟨c | c, d⟩
      · exact Or.inl ⟨Or.inl c, d⟩
      · exact Or.inr ⟨c.1, by rw [← c.1]; exact d⟩
    · rintro (⟨c | c, d⟩ | ⟨c, d⟩)
      · exact ⟨Or.inl c, d⟩
      · exact ⟨Or.inr ⟨c.1, Or.inl c.2⟩, d⟩
      · exact ⟨Or.inr ⟨c, Or.inr rfl⟩, by rw [c]; exact d⟩
    · rintro ⟨c | c, d⟩
      · exact Or.inl ⟨Or.inl c, d⟩
      · exact Or.inr ⟨c.1, by rw [← c.1]; exact d⟩
  · obtain ⟨e1, e2⟩ := g.1 z e
    rw [e1, e2, w.1, w.2]
    exact ⟨⟨fun c => ⟨c.1.imp id (fun c => ⟨c.1, Or.inl c.2⟩), c.2⟩, fun c => ⟨c.1.imp id (fun c => ⟨c.1, c.2.elim id (fun y => absurd y e)⟩), c.2⟩⟩, ⟨fun c => ⟨c.1.imp id (fun c => ⟨c.1, Or.inl c.2⟩), c.2⟩, fun c => ⟨c.1.imp id (fun c => ⟨c.1, c.2.elim id (fun y => absurd y e)⟩), c.2⟩⟩⟩
theorem y_Fr_d {D' : Int → Prop} (h : y_Fr N lim i j D row W V up sp le a b) (e : ∀ x : Int, 1 ≤ x → x < N → le x < lim → 1 ≤ up x → (D x ↔ D' x)) (ij : i < j) : y_Fr N lim i j D' row W V up sp le a b := fun z z1 zN lz k hd f hp q q0 q1 => by
  have w := h z z1 zN lz k hd f hp q q0 q1
  rw [w.1, w.2]
  cases k with
  | zero =>
    have r1 : y_p1 row W f i 0 q → q < j := fun y => by have y : q = i := y; omega
    exact ⟨⟨fun c => ⟨Or.inl (r1 c.2), c.2⟩, fun c => ⟨Or.inl (r1 c.2), c.2⟩⟩, ⟨fun c => c.2.elim, fun c => c.2.elim⟩⟩
  | succ k =>
    have u1 := y_pt_1 k _ hp.2.2
    have ee := e z z1 zN lz u1
    exact ⟨⟨fun c => ⟨c.1.imp id (fun c => ⟨c.1, ee.mp c.2⟩), c.2⟩, fun c => ⟨c.1.imp id (fun c => ⟨c.1, ee.mpr c.2⟩), c.2⟩⟩, ⟨fun c => ⟨c.1.imp id (fun c => ⟨c.1, ee.mp c.2⟩), c.2⟩, fun c => ⟨c.1.imp id (fun c => ⟨c.1, ee.mpr c.2⟩), c.2⟩⟩⟩
/-- the cell itself is of no account for other nodes -/
theorem y_Fr_w {W' V' : Int → Int → Int → Prop} (vw : ∀ t p q : Int, V t p q → W t p q) (vw' : ∀ t p q : Int, V' t p q → W' t p q) (h : y_Fr N lim i j D row W V up sp le a b) (e : ∀ t p q : Int, i ≤ p → p < q → q ≤ j → ¬ (p = i ∧ q = j) → (W t p q ↔ W' t p q) ∧ (V t p q ↔ V' t p q)) (dv : ∀ x : Int, 1 ≤ x → x < N → D x → ¬ y_FV up sp x) : y_Fr N lim i j D row W' V' up sp le a b := fun z z1 zN lz k hd f hp q q0 q1 => by
  have w := h z z1 zN lz k hd f hp q q0 q1
  have key : (q < j ∨ (q = j ∧ D z)) → (y_p1 row W f i k q ↔ y_p1 row W' f i k q) ∧ (y_p2 row W V f i k q ↔ y_p2 row W' V' f i k q) := fun c => by
    have g : ∀ o : Int, 1 ≤ o → o ≤ (k : Int) → f o < 0 → ∀ p r : Int, i + o - 1 ≤ p → p < r → r ≤ q - ((k : Int) - o) → (o = 1 → p = i) → (W (-2 - f o) p r ↔ W' (-2 - f o) p r) ∧ (V (-2 - f o) p r ↔ V' (-2 - f o) p r) := fun o a1 a2 a3 p r a4 a5 a6 a7 => by
      refine e _ p r (by omega) a5 (by omega) (fun y => ?_)
      have o1 : o = 1 := by omega
      have k1 : (k : Int) = 1 := by omega
      have kk : k = 1 := by omega
      subst kk
      have d : D z := by
        rcases c with c | c
        · omega
        · exact c.2
      refine dv z z1 zN d ⟨y_pt_1 0 _ hp.2.2, hp.2.2.2.1, ?_⟩
      rw [hp.2.1]; rw [o1] at a3; exact a3
    exact ⟨y_p1_x k q (fun _ _ _ => rfl) (fun o a1 a2 a3 p r a4 a5 a6 a7 => (g o a1 a2 a3 p r a4 a5 a6 a7).1), y_p2_x vw vw' k q (fun _ _ _ => rfl) g⟩
  rw [w.1, w.2]
  exact ⟨⟨fun c => ⟨c.1, (key c.1).1.mp c.2⟩, fun c => ⟨c.1, (key c.1).1.mpr c.2⟩⟩, ⟨fun c => ⟨c.1, (key c.1).2.mp c.2⟩, fun c => ⟨c.1, (key c.1).2.mpr c.2⟩⟩⟩
end
/-- what the nodes so far make of a place -/
def y_B (sy i j u : Int) (so : Int → Int) (L : Int → Prop) (N1 N2 : Int → Int → Prop) (fi wy by_ : Int → Int) : Prop := ∀ t : Int, 0 ≤ t → t < sy → 0 ≤ so t → (0 ≤ wy ((so t * 61 + i) * 61 + j) ∧ wy ((so t * 61 + i) * 61 + j) ≤ 2) ∧ (1 ≤ wy ((so t * 61 + i) * 61 + j) ↔ L t ∨ ∃ x : Int, (1 ≤ x ∧ x < u) ∧ N1 x t) ∧ (2 ≤ wy ((so t * 61 + i) * 61 + j) ↔ (L t ∧ ∃ x : Int, (1 ≤ x ∧ x < u) ∧ N1 x t) ∨ (∃ x : Int, (1 ≤ x ∧ x < u) ∧ N2 x t) ∨ ∃ x y : Int, (1 ≤ x ∧ x < y ∧ y < u) ∧ N1 x t ∧ N1 y t) ∧ ((by_ ((so t * 61 + i) * 61 + j) = -1 ∧ ¬ ∃ x : Int, (1 ≤ x ∧ x < u) ∧ N1 x t) ∨ ∃ x : Int, (1 ≤ x ∧ x < u) ∧ N1 x t ∧ by_ ((so t * 61 + i) * 61 + j) = fi x)
section
variable {sy i j u : Int} {so : Int → Int} {L : Int → Prop} {N1 N2 : Int → Int → Prop} {fi wy by_ : Int → Int}
theorem y_B_n (h : y_B sy i j u so L N1 N2 fi wy by_) (n : ∀ t : Int, ¬ N1 u t) (n21 : ∀ x t : Int, N2 x t → N1 x t) : y_B sy i j (u + 1) so L N1 N2 fi wy by_ := fun t t0 t1 ts => by
  obtain ⟨h1, h2, h3, h4⟩ := h t t0 t1 ts
  have e1 : (∃ x : Int, (1 ≤ x ∧ x < u + 1) ∧ N1 x t) ↔ ∃ x : Int, (1 ≤ x ∧ x < u) ∧ N1 x t := ⟨fun ⟨x, hx, p⟩ => by
    rcases (by omega : x < u ∨ x = u) with q | q
    · exact ⟨x, ⟨hx.1, q⟩, p⟩
    · rw [q] at p; exact absurd p (n t), fun ⟨x, hx, p⟩ => ⟨x, ⟨hx.1, by omega⟩, p⟩⟩
  have e2 : (∃ x : Int, (1 ≤ x ∧ x < u + 1) ∧ N2 x t) ↔ ∃ x : Int, (1 ≤ x ∧ x < u) ∧ N2 x t := ⟨fun ⟨x, hx, p⟩ => by
    rcases (by omega : x < u ∨ x = u) with q | q
    · exact ⟨x, ⟨hx.1, q⟩, p⟩
    · rw [q] at p; exact absurd (n21 _ _ p) (n t), fun ⟨x, hx, p⟩ => ⟨x, ⟨hx.1, by omega⟩, p⟩⟩
  have e3 : (∃ x y : Int, (1 ≤ x ∧ x < y ∧ y < u + 1) ∧ N1 x t ∧ N1 y t) ↔ ∃ x y : Int, (1 ≤ x ∧ x < y ∧ y < u) ∧ N1 x t ∧ N1 y t := ⟨fun ⟨x, y, hx, p, q⟩ => by
    rcases (by omega : y < u ∨ y = u) with z | z
    · exact ⟨x, y, ⟨hx.1, hx.2.1, z⟩, p, q⟩
    · rw [z] at q; exact absurd q (n t), fun ⟨x, y, hx, p, q⟩ => ⟨x, y, ⟨hx.1, hx.2.1, by omega⟩, p, q⟩⟩
  rw [e1, e2, e3]
  refine ⟨h1, h2, h3, h4.imp id ?_⟩
  rintro ⟨x, hx, p⟩
  exact ⟨x, ⟨hx.1, by omega⟩, p⟩
theorem y_B_y (h : y_B sy i j u so L N1 N2 fi wy by_) (u1 : 1 ≤ u) {t0 m y z : Int} (t00 : 0 ≤ t0) (t01 : t0 < sy) (t02 : 0 ≤ so t0) (inj : ∀ s r : Int, 0 ≤ s → s < r → r < sy → 0 ≤ so s → so s ≠ so r) (g : N1 u t0) (gu : ∀ t : Int, N1 u t → t = t0) (n21 : ∀ x t : Int, N2 x t → N1 x t) (hm : (m = 2 ∧ N2 u t0) ∨ (m = 1 ∧ ¬ N2 u t0))
    (hy : (wy ((so t0 * 61 + i) * 61 + j) + m ≤ 2 ∧ y = wy ((so t0 * 61 + i) * 61 + j) + m) ∨ (2 < wy ((so t0 * 61 + i) * 61 + j) + m ∧ y = 2)) (hz : (¬ by_ ((so t0 * 61 + i) * 61 + j) = -1 ∧ z = by_ ((so t0 * 61 + i) * 61 + j)) ∨ (by_ ((so t0 * 61 + i) * 61 + j) = -1 ∧ z = fi u)) : y_B sy i j (u + 1) so L N1 N2 fi (st wy ((so t0 * 61 + i) * 61 + j) y) (st by_ ((so t0 * 61 + i) * 61 + j) z) := fun t a b c => by
  obtain ⟨h1, h2, h3, h4⟩ := h t a b c
  by_cases e : t = t0
  · subst e
    rw [st_s, st_s]
    have X1 : ∃ x : Int, (1 ≤ x ∧ x < u + 1) ∧ N1 x t := ⟨u, ⟨u1, by omega⟩, g⟩
    refine ⟨by omega, ⟨fun _ => Or.inr X1, fun _ => by omega⟩, ⟨fun q => ?_, fun q => ?_⟩, ?_⟩
    · rcases (by omega : 2 ≤ wy ((so t * 61 + i) * 61 + j) ∨ 1 ≤ wy ((so t * 61 + i) * 61 + j) ∨ m = 2) with v | v | v
      · rcases h3.mp v with ⟨w1, x, hx, w2⟩ | ⟨x, hx, w⟩ | ⟨x, y, hx, w⟩
        · exact Or.inl ⟨w1, X1⟩
        · exact Or.inr (Or.inl ⟨x, ⟨hx.1, by omega⟩, w⟩)
        · exact Or.inr (Or.inr ⟨x, y, ⟨hx.1, hx.2.1, by omega⟩, w⟩)
      · rcases h2.mp v with w | ⟨x, hx, w⟩
        · exact Or.inl ⟨w, X1⟩
        · exact Or.inr (Or.inr ⟨x, u, ⟨hx.1, hx.2, by omega⟩, w, g⟩)
      · exact Or.inr (Or.inl ⟨u, ⟨u1, by omega⟩, hm.elim (fun w => w.2) (fun w => by omega)⟩)
    · rcases q with ⟨w1, _⟩ | ⟨x, hx, w⟩ | ⟨x, w, hx, p, q⟩
      · have := h2.mpr (Or.inl w1); omega
      · rcases (by omega : x < u ∨ x = u) with v | v
        · have := h3.mpr (Or.inr (Or.inl ⟨x, ⟨hx.1, v⟩, w⟩)); omega
        · rw [v] at w
          rcases hm with hm | hm
          · omega
          · exact absurd w hm.2
      · have := h2.mpr (Or.inr ⟨x, ⟨hx.1, by omega⟩, p⟩); omega
    · rcases h4 with ⟨q1, q2⟩ | ⟨x, hx, p, q⟩
      · exact Or.inr ⟨u, ⟨u1, by omega⟩, g, by omega⟩
      · rcases hz with ⟨z1, z2⟩ | ⟨z1, z2⟩
        · exact Or.inr ⟨x, ⟨hx.1, by omega⟩, p, by omega⟩
        · exact Or.inr ⟨u, ⟨u1, by omega⟩, g, z2⟩
  · have ne : so t ≠ so t0 := by
      rcases (by omega : t < t0 ∨ t0 < t) with q | q
      · exact inj t t0 a q t01 c
      · exact fun w => inj t0 t t00 q b t02 w.symm
    have n : ¬ N1 u t := fun w => e (gu t w)
    rw [st_n _ _ (show (so t * 61 + i) * 61 + j ≠ (so t0 * 61 + i) * 61 + j by omega), st_n _ _ (show (so t * 61 + i) * 61 + j ≠ (so t0 * 61 + i) * 61 + j by omega)]
    have e1 : (∃ x : Int, (1 ≤ x ∧ x < u + 1) ∧ N1 x t) ↔ ∃ x : Int, (1 ≤ x ∧ x < u) ∧ N1 x t := ⟨fun ⟨x, hx, p⟩ => by
      rcases (by omega : x < u ∨ x = u) with q | q
      · exact ⟨x, ⟨hx.1, q⟩, p⟩
      · rw [q] at p; exact absurd p n, fun ⟨x, hx, p⟩ => ⟨x, ⟨hx.1, by omega⟩, p⟩⟩
    have e2 : (∃ x : Int, (1 ≤ x ∧ x < u + 1) ∧ N2 x t) ↔ ∃ x : Int, (1 ≤ x ∧ x < u) ∧ N2 x t := ⟨fun ⟨x, hx, p⟩ => by
      rcases (by omega : x < u ∨ x = u) with q | q
      · exact ⟨x, ⟨hx.1, q⟩, p⟩
      · rw [q] at p; exact absurd (n21 _ _ p) n, fun ⟨x, hx, p⟩ => ⟨x, ⟨hx.1, by omega⟩, p⟩⟩
    have e3 : (∃ x y : Int, (1 ≤ x ∧ x < y ∧ y < u + 1) ∧ N1 x t ∧ N1 y t) ↔ ∃ x y : Int, (1 ≤ x ∧ x < y ∧ y < u) ∧ N1 x t ∧ N1 y t := ⟨fun ⟨x, y, hx, p, q⟩ => by
      rcases (by omega : y < u ∨ y = u) with z | z
      · exact ⟨x, y, ⟨hx.1, hx.2.1, z⟩, p, q⟩
      · rw [z] at q; exact absurd q n, fun ⟨x, y, hx, p, q⟩ => ⟨x, y, ⟨hx.1, hx.2.1, by omega⟩, p, q⟩⟩
    rw [e1, e2, e3]
    refine ⟨h1, h2, h3, h4.imp id ?_⟩
    rintro ⟨x, hx, p⟩
    exact ⟨x, ⟨hx.1, by omega⟩, p⟩
end
section
variable {sy lim N M Z i j : Int} {so ls row wy by_ up sp fi ot le hd nn : Int → Int} {R In U : Int → Prop} {f : Int → Int → Int} {W V : Int → Int → Int → Prop}
def y_N1 (lim : Int) (hd nn : Int → Int) (f : Int → Int → Int) (row : Int → Int) (W : Int → Int → Int → Prop) (i j : Int) (fi : Int → Int) (x t : Int) : Prop := fi x < lim ∧ hd (fi x) = t ∧ y_p1 row W (f (fi x)) i (nn (fi x)).toNat j
def y_N2 (lim : Int) (hd nn : Int → Int) (f : Int → Int → Int) (row : Int → Int) (W V : Int → Int → Int → Prop) (i j : Int) (fi ot : Int → Int) (x t : Int) : Prop := y_N1 lim hd nn f row W i j fi x t ∧ (y_p2 row W V (f (fi x)) i (nn (fi x)).toNat j ∨ ot x < lim)
/-- nodes and rules tell the same -/
theorem y_BR (T : y_T N M Z R hd nn f up sp fi ot le) (F : y_Tf N fi le) (lz : lim ≤ Z) (l5 : lim ≤ 1500) (t : Int) :
    ((∃ x : Int, (1 ≤ x ∧ x < N) ∧ y_N1 lim hd nn f row W i j fi x t) ↔ ∃ r : Int, y_cb lim R hd t r ∧ y_p1 row W (f r) i (nn r).toNat j) ∧
    (((∃ x : Int, (1 ≤ x ∧ x < N) ∧ y_N2 lim hd nn f row W V i j fi ot x t) ∨ ∃ x y : Int, (1 ≤ x ∧ x < y ∧ y < N) ∧ y_N1 lim hd nn f row W i j fi x t ∧ y_N1 lim hd nn f row W i j fi y t) ↔ (∃ r : Int, y_cb lim R hd t r ∧ y_p1 row W (f r) i (nn r).toNat j ∧ y_p2 row W V (f r) i (nn r).toNat j) ∨ ∃ r s : Int, r < s ∧ (y_cb lim R hd t r ∧ y_p1 row W (f r) i (nn r).toNat j) ∧ y_cb lim R hd t s ∧ y_p1 row W (f s) i (nn s).toNat j) := by
  obtain ⟨_, T1, _, T3⟩ := T
  have FI : ∀ x : Int, 1 ≤ x → x < N → ∀ t : Int, y_N1 lim hd nn f row W i j fi x t → y_cb lim R hd t (fi x) ∧ y_p1 row W (f (fi x)) i (nn (fi x)).toNat j := fun x a b t h => by
    have w := ((T3 x a b).1 (by have := h.1; omega)).1
    exact ⟨⟨⟨w.1, h.1⟩, w.2.2, h.2.1⟩, h.2.2⟩
  -- the end of a rule
  have EN : ∀ r : Int, y_cb lim R hd t r → ∃ e : Int, (1 ≤ e ∧ e < N) ∧ (fi e = r ∨ (fi e < r ∧ ot e ≤ r)) ∧ fi e < lim ∧ hd (fi e) = t ∧ (nn (fi e)).toNat = (nn r).toNat ∧ ∀ o : Int, 1 ≤ o → o ≤ ((nn r).toNat : Int) → f r o = f (fi e) o := fun r hr => by
    obtain ⟨e, ee, hp, le', hf⟩ := T1 r hr.1.1 (by have := hr.1.2; omega) hr.2.1
    have fl : fi e < lim := by have := hr.1.2; omega
    have g := ((T3 e ee.1 ee.2).1 (by omega)).2
    obtain ⟨u1, u2, u3⟩ := y_pt_u _ _ _ hp g
    exact ⟨e, ee, hf, fl, u2.symm.trans hr.2.2, u1.symm, u3⟩
  have P1 : ∀ r e : Int, (nn (fi e)).toNat = (nn r).toNat → (∀ o : Int, 1 ≤ o → o ≤ ((nn r).toNat : Int) → f r o = f (fi e) o) → (y_p1 row W (f r) i (nn r).toNat j ↔ y_p1 row W (f (fi e)) i (nn (fi e)).toNat j) ∧ (y_p2 row W V (f r) i (nn r).toNat j ↔ y_p2 row W V (f (fi e)) i (nn (fi e)).toNat j) := fun r e en ef => by
    rw [en]
    exact ⟨⟨fun q => y_p1_f _ _ ef q, fun q => y_p1_f _ _ (fun o a b => (ef o a b).symm) q⟩, ⟨fun q => y_p2_f _ _ ef q, fun q => y_p2_f _ _ (fun o a b => (ef o a b).symm) q⟩⟩
  refine ⟨⟨fun ⟨x, hx, h⟩ => ⟨fi x, FI x hx.1 hx.2 t h⟩, fun ⟨r, hr, hp⟩ => ?_⟩, ⟨?_, ?_⟩⟩
  · obtain ⟨e, ee, hf, fl, eh, en, ef⟩ := EN r hr
    exact ⟨e, ee, fl, eh, (P1 r e en ef).1.mp hp⟩
  · rintro (⟨x, hx, h, h2⟩ | ⟨x, y, hx, h, g⟩)
    · obtain ⟨c, p⟩ := FI x hx.1 hx.2 t h
      rcases h2 with h2 | h2
      · exact Or.inl ⟨fi x, c, p, h2⟩
      · have w := (T3 x hx.1 hx.2).2 (by omega)
        have v := (T3 x hx.1 hx.2).1 (by have := h.1; omega)
        obtain ⟨u1, u2, u3⟩ := y_pt_u _ _ _ v.2 w.2.2
        refine Or.inr ⟨fi x, ot x, w.1, ⟨c, p⟩, ⟨⟨by have := c.1.1; have := w.1; omega, h2⟩, w.2.1.2, u2.symm.trans h.2.1⟩, ?_⟩
        rw [← u1]
        exact y_p1_f _ _ u3 p
    · obtain ⟨c1, p1⟩ := FI x hx.1 (by omega) t h
      obtain ⟨c2, p2⟩ := FI y (by omega) hx.2.2 t g
      have ne := F.2 x y hx.1 hx.2.1 hx.2.2 (by have := h.1; omega)
      rcases (by omega : fi x < fi y ∨ fi y < fi x) with q | q
      · exact Or.inr ⟨fi x, fi y, q, ⟨c1, p1⟩, c2, p2⟩
      · exact Or.inr ⟨fi y, fi x, q, ⟨c2, p2⟩, c1, p1⟩
  · rintro (⟨r, hr, hp, hq⟩ | ⟨r, s, rs, ⟨hr, hp⟩, hs, hq⟩)
    · obtain ⟨e, ee, hf, fl, eh, en, ef⟩ := EN r hr
      have P := P1 r e en ef
      exact Or.inl ⟨e, ee, ⟨fl, eh, P.1.mp hp⟩, Or.inl (P.2.mp hq)⟩
    · obtain ⟨e, ee, hf, fl, eh, en, ef⟩ := EN r hr
      obtain ⟨d, dd, hg, gl, gh, gn, gf⟩ := EN s hs
      have n1 : y_N1 lim hd nn f row W i j fi e t := ⟨fl, eh, (P1 r e en ef).1.mp hp⟩
      have n2 : y_N1 lim hd nn f row W i j fi d t := ⟨gl, gh, (P1 s d gn gf).1.mp hq⟩
      rcases Int.lt_trichotomy e d with z | z | z
      · exact Or.inr ⟨e, d, ⟨ee.1, z, dd.2⟩, n1, n2⟩
      · subst z
        refine Or.inl ⟨e, ee, n1, Or.inr ?_⟩
        have := hs.1.2
        omega
      · exact Or.inr ⟨d, e, ⟨dd.1, z, ee.2⟩, n2, n1⟩
end
section
variable {sy S lim N M Z uc i j len : Int} {so ls row w0 wn by_ up sp fi ot le hd nn un sr : Int → Int} {In U : Int → Prop} {f : Int → Int → Int} {W0 V0 : Int → Int → Int → Prop}
/-- a cell is done -/
theorem y_cell (T : y_T N M Z (fun r => In r ∧ ¬ U r) hd nn f up sp fi ot le) (F : y_Tf N fi le) (lz : lim ≤ Z) (l5 : lim ≤ 1500)
    (hU : ∀ r : Int, U r ↔ nn r = 1 ∧ f r 1 < 0) (n1 : ∀ r : Int, In r → 1 ≤ nn r)
    (soS : ∀ t : Int, 0 ≤ t → t < sy → 0 ≤ so t → so t < S) (inj : ∀ s r : Int, 0 ≤ s → s < r → r < sy → 0 ≤ so s → so s ≠ so r) (S1 : S ≤ 100) (S0 : 0 ≤ S)
    (ty : ∀ r : Int, 0 ≤ r → r < lim → In r → (0 ≤ hd r ∧ hd r < sy ∧ 0 ≤ so (hd r)) ∧ (U r → 0 ≤ -2 - f r 1 ∧ -2 - f r 1 < sy))
    (hL : ∀ t : Int, y_L ls t i j → 0 ≤ t ∧ t < sy ∧ 0 ≤ so t)
    (un1 : ∀ k : Int, 0 ≤ k → k < uc → 0 ≤ un k ∧ In (un k) ∧ U (un k)) (un2 : ∀ k o : Int, 0 ≤ k → k < o → o < uc → un k < un o) (un3 : ∀ r : Int, 0 ≤ r → r < lim → In r → U r → ∃ k : Int, (0 ≤ k ∧ k < uc) ∧ un k = r)
    (hsr : ∀ k : Int, 0 ≤ k → k < uc → sr k = so (-2 - f (un k) 1))
    (vw : ∀ t p q : Int, V0 t p q → W0 t p q) (i0 : 0 ≤ i) (ij : i < j)
    (ag : ∀ t p q : Int, i ≤ p → p < q → q ≤ j → ¬ (p = i ∧ q = j) → (W0 t p q ↔ y_W1 sy so wn t p q) ∧ (V0 t p q ↔ y_W2 sy so wn t p q))
    (B : y_B sy i j N so (fun t => y_L ls t i j) (y_N1 lim hd nn f row W0 i j fi) (y_N2 lim hd nn f row W0 V0 i j fi ot) fi w0 by_)
    (FF : y_FF S uc (fun k => un k < lim) (fun k => so (hd (un k))) sr (fun s => w0 ((s * 61 + i) * 61 + j)) (fun s => wn ((s * 61 + i) * 61 + j)))
    (rk : ∃ ρ : Int → Int, y_rk S uc (fun k => un k < lim) (fun k => so (hd (un k))) sr (fun s => w0 ((s * 61 + i) * 61 + j)) (fun s => wn ((s * 61 + i) * 61 + j)) ρ) :
    (∃ ρ : Int → Int, ∀ t : Int, y_ok lim In hd nn f row ls (y_W1 sy so wn) (y_W2 sy so wn) (fun t _ _ => ρ t) t i j) ∧ ∀ t : Int, 0 ≤ t → t < sy → 0 ≤ so t → (0 ≤ wn ((so t * 61 + i) * 61 + j) ∧ wn ((so t * 61 + i) * 61 + j) ≤ 2) ∧ ((by_ ((so t * 61 + i) * 61 + j) = -1 ∧ ¬ ∃ r : Int, y_cb lim (fun r => In r ∧ ¬ U r) hd t r ∧ y_p1 row (y_W1 sy so wn) (f r) i (nn r).toNat j) ∨ ∃ r : Int, y_cb lim (fun r => In r ∧ ¬ U r) hd t r ∧ y_p1 row (y_W1 sy so wn) (f r) i (nn r).toNat j ∧ by_ ((so t * 61 + i) * 61 + j) = r) := by
  have vw' := y_W21 sy so wn
  -- other rules do not look at the cell
  have P : ∀ r : Int, In r → ¬ U r → (y_p1 row W0 (f r) i (nn r).toNat j ↔ y_p1 row (y_W1 sy so wn) (f r) i (nn r).toNat j) ∧ (y_p2 row W0 V0 (f r) i (nn r).toNat j ↔ y_p2 row (y_W1 sy so wn) (y_W2 sy so wn) (f r) i (nn r).toNat j) := fun r hr nu => by
    have nr := n1 r hr
    have nu2 : ¬ (nn r = 1 ∧ f r 1 < 0) := fun h => nu ((hU r).mpr h)
    have g : ∀ o : Int, 1 ≤ o → o ≤ ((nn r).toNat : Int) → f r o < 0 → ∀ p q : Int, i + o - 1 ≤ p → p < q → q ≤ j - (((nn r).toNat : Int) - o) → (o = 1 → p = i) → (W0 (-2 - f r o) p q ↔ y_W1 sy so wn (-2 - f r o) p q) ∧ (V0 (-2 - f r o) p q ↔ y_W2 sy so wn (-2 - f r o) p q) := fun o a1 a2 a3 p q a4 a5 a6 _ => by
      refine ag _ p q (by omega) a5 (by omega) (fun y => ?_)
      have o1 : o = 1 := by omega
      exact nu2 ⟨by omega, by rw [o1] at a3; exact a3⟩
    exact ⟨y_p1_x _ _ (fun _ _ _ => rfl) (fun o a1 a2 a3 p r a4 a5 a6 a7 => (g o a1 a2 a3 p r a4 a5 a6 a7).1), y_p2_x vw vw' _ _ (fun _ _ _ => rfl) g⟩
  have cbI : ∀ t r : Int, y_cb lim (fun r => In r ∧ ¬ U r) hd t r → y_cb lim In hd t r := fun t r h => ⟨h.1, h.2.1.1, h.2.2⟩
  -- what the other rules make
  have b1 : ∀ t : Int, 0 ≤ t → t < sy → 0 ≤ so t → (1 ≤ w0 ((so t * 61 + i) * 61 + j) ↔ y_L ls t i j ∨ ∃ r : Int, y_cb lim (fun r => In r ∧ ¬ U r) hd t r ∧ y_p1 row (y_W1 sy so wn) (f r) i (nn r).toNat j) := fun t a b c => by
    rw [(B t a b c).2.1, (y_BR (V := V0) T F lz l5 t).1]
    exact or_congr Iff.rfl ⟨fun ⟨r, h, p⟩ => ⟨r, h, (P r h.2.1.1 h.2.1.2).1.mp p⟩, fun ⟨r, h, p⟩ => ⟨r, h, (P r h.2.1.1 h.2.1.2).1.mpr p⟩⟩
  have b2 : ∀ t : Int, 0 ≤ t → t < sy → 0 ≤ so t → (2 ≤ w0 ((so t * 61 + i) * 61 + j) ↔ (y_L ls t i j ∧ ∃ r : Int, y_cb lim (fun r => In r ∧ ¬ U r) hd t r ∧ y_p1 row (y_W1 sy so wn) (f r) i (nn r).toNat j) ∨ (∃ r : Int, y_cb lim (fun r => In r ∧ ¬ U r) hd t r ∧ y_p2 row (y_W1 sy so wn) (y_W2 sy so wn) (f r) i (nn r).toNat j) ∨ ∃ r s : Int, r < s ∧ (y_cb lim (fun r => In r ∧ ¬ U r) hd t r ∧ y_p1 row (y_W1 sy so wn) (f r) i (nn r).toNat j) ∧ y_cb lim (fun r => In r ∧ ¬ U r) hd t s ∧ y_p1 row (y_W1 sy so wn) (f s) i (nn s).toNat j) := fun t a b c => by
    have R := y_BR (row := row) (i := i) (j := j) (W := W0) (V := V0) T F lz l5 t
    rw [(B t a b c).2.2.1, R.1, R.2]
    refine or_congr (and_congr Iff.rfl ⟨fun ⟨r, h, p⟩ => ⟨r, h, (P r h.2.1.1 h.2.1.2).1.mp p⟩, fun ⟨r, h, p⟩ => ⟨r, h, (P r h.2.1.1 h.2.1.2).1.mpr p⟩⟩) (or_congr ⟨fun ⟨r, h, _, p⟩ => ⟨r, h, (P r h.2.1.1 h.2.1.2).2.mp p⟩, fun ⟨r, h, p⟩ => ?_⟩ ⟨fun ⟨r, s, l, ⟨h, p⟩, g, q⟩ => ⟨r, s, l, ⟨h, (P r h.2.1.1 h.2.1.2).1.mp p⟩, g, (P s g.2.1.1 g.2.1.2).1.mp q⟩, fun ⟨r, s, l, ⟨h, p⟩, g, q⟩ => ⟨r, s, l, ⟨h, (P r h.2.1.1 h.2.1.2).1.mpr p⟩, g, (P s g.2.1.1 g.2.1.2).1.mpr q⟩⟩)
    have p' := (P r h.2.1.1 h.2.1.2).2.mpr p
    exact ⟨r, h, y_p21 vw _ _ p', p'⟩
  -- what the rules of one variable make
  have K1 : ∀ t k : Int, 0 ≤ t → t < sy → 0 ≤ so t → 0 ≤ k → k < uc → un k < lim → so (hd (un k)) = so t → y_cb lim In hd t (un k) := fun t k a b c k0 k1 kl e => by
    have u := un1 k k0 k1
    have y := (ty (un k) u.1 kl u.2.1).1
    refine ⟨⟨u.1, kl⟩, u.2.1, ?_⟩
    rcases Int.lt_trichotomy (hd (un k)) t with z | z | z
    · exact absurd e (inj _ _ y.1 z b y.2.2)
    · exact z
    · exact absurd e.symm (inj _ _ a z y.2.1 c)
  have K2 : ∀ k : Int, 0 ≤ k → k < uc → un k < lim → ((0 ≤ sr k ∧ 1 ≤ wn ((sr k * 61 + i) * 61 + j)) ↔ y_p1 row (y_W1 sy so wn) (f (un k)) i (nn (un k)).toNat j) ∧ ((0 ≤ sr k ∧ 2 ≤ wn ((sr k * 61 + i) * 61 + j)) ↔ y_p2 row (y_W1 sy so wn) (y_W2 sy so wn) (f (un k)) i (nn (un k)).toNat j) := fun k k0 k1 kl => by
    have u := un1 k k0 k1
    have uu := (hU (un k)).mp u.2.2
    have y := (ty (un k) u.1 kl u.2.1).2 u.2.2
    rw [uu.1, hsr k k0 k1]
    exact ⟨⟨fun h => (y_u1 uu.2 ij).mpr ⟨⟨y.1, y.2, h.1⟩, h.2⟩, fun h => ⟨((y_u1 uu.2 ij).mp h).1.2.2, ((y_u1 uu.2 ij).mp h).2⟩⟩, ⟨fun h => (y_u2 uu.2 ij).mpr ⟨⟨y.1, y.2, h.1⟩, h.2⟩, fun h => ⟨((y_u2 uu.2 ij).mp h).1.2.2, ((y_u2 uu.2 ij).mp h).2⟩⟩⟩
  have RE : ∀ t : Int, ∀ r : Int, y_cb lim In hd t r → ¬ U r → y_cb lim (fun r => In r ∧ ¬ U r) hd t r := fun t r h nu => ⟨h.1, ⟨h.2.1, nu⟩, h.2.2⟩
  have UE : ∀ t r : Int, y_cb lim In hd t r → U r → ∃ k : Int, (0 ≤ k ∧ k < uc) ∧ un k < lim ∧ so (hd (un k)) = so t ∧ un k = r := fun t r h u => by
    obtain ⟨k, hk, e⟩ := un3 r h.1.1 h.1.2 h.2.1 u
    exact ⟨k, hk, by rw [e]; exact h.1.2, by rw [e, h.2.2], e⟩
  have E1 : ∀ t : Int, 0 ≤ t → t < sy → 0 ≤ so t → (1 ≤ wn ((so t * 61 + i) * 61 + j) ↔ y_E1 lim In hd nn f row ls (y_W1 sy so wn) t i j) := fun t a b c => by
    have w := (FF (so t) c (soS t a b c)).2.1
    constructor
    · intro q
      rcases w.mp q with q | ⟨k, hk, x1, x2, x3, x4⟩
      · rcases (b1 t a b c).mp q with q | ⟨r, h, p⟩
        · exact Or.inl q
        · exact Or.inr ⟨r, cbI t r h, p⟩
      · exact Or.inr ⟨un k, K1 t k a b c hk.1 hk.2 x1 x2, (K2 k hk.1 hk.2 x1).1.mp ⟨x3, x4⟩⟩
    · intro q
      refine w.mpr ?_
      rcases q with q | ⟨r, h, p⟩
      · exact Or.inl ((b1 t a b c).mpr (Or.inl q))
      · by_cases u : U r
        · obtain ⟨k, hk, kl, e1, e2⟩ := UE t r h u
          have p2 := (K2 k hk.1 hk.2 kl).1.mpr (by rw [e2]; exact p)
          exact Or.inr ⟨k, hk, kl, e1, p2.1, p2.2⟩
        · exact Or.inl ((b1 t a b c).mpr (Or.inr ⟨r, RE t r h u, p⟩))
  have E2 : ∀ t : Int, 0 ≤ t → t < sy → 0 ≤ so t → (2 ≤ wn ((so t * 61 + i) * 61 + j) ↔ y_E2 lim In hd nn f row ls (y_W1 sy so wn) (y_W2 sy so wn) t i j) := fun t a b c => by
    have w := (FF (so t) c (soS t a b c)).2.2
    constructor
    · intro q
      rcases w.mp q with q | ⟨q, k, hk, x1, x2, x3, x4⟩ | ⟨k, hk, x1, x2, x3, x4⟩ | ⟨o, k, hk, ⟨x1, x2, x3, x4⟩, y1, y2, y3, y4⟩
      · rcases (b2 t a b c).mp q with ⟨q, r, h, p⟩ | ⟨r, h, p⟩ | ⟨r, s, l, ⟨h, p⟩, g, q⟩
        · exact Or.inl ⟨q, r, cbI t r h, p⟩
        · exact Or.inr (Or.inl ⟨r, cbI t r h, p⟩)
        · exact Or.inr (Or.inr ⟨r, s, l, ⟨cbI t r h, p⟩, cbI t s g, q⟩)
      · have g := K1 t k a b c hk.1 hk.2 x1 x2
        have p := (K2 k hk.1 hk.2 x1).1.mp ⟨x3, x4⟩
        rcases (b1 t a b c).mp q with q | ⟨r, h, p2⟩
        · exact Or.inl ⟨q, un k, g, p⟩
        · have ne : r ≠ un k := fun e => h.2.1.2 (by rw [e]; exact (un1 k hk.1 hk.2).2.2)
          rcases (by omega : r < un k ∨ un k < r) with z | z
          · exact Or.inr (Or.inr ⟨r, un k, z, ⟨cbI t r h, p2⟩, g, p⟩)
          · exact Or.inr (Or.inr ⟨un k, r, z, ⟨g, p⟩, cbI t r h, p2⟩)
      · exact Or.inr (Or.inl ⟨un k, K1 t k a b c hk.1 hk.2 x1 x2, (K2 k hk.1 hk.2 x1).2.mp ⟨x3, x4⟩⟩)
      · exact Or.inr (Or.inr ⟨un o, un k, un2 o k hk.1 hk.2.1 hk.2.2, ⟨K1 t o a b c hk.1 (by omega) x1 x2, (K2 o hk.1 (by omega) x1).1.mp ⟨x3, x4⟩⟩, K1 t k a b c (by omega) hk.2.2 y1 y2, (K2 k (by omega) hk.2.2 y1).1.mp ⟨y3, y4⟩⟩)
    · intro q
      refine w.mpr ?_
      rcases q with ⟨q, r, h, p⟩ | ⟨r, h, p⟩ | ⟨r, s, l, ⟨h, p⟩, g, q⟩
      · by_cases u : U r
        · obtain ⟨k, hk, kl, e1, e2⟩ := UE t r h u
          have p2 := (K2 k hk.1 hk.2 kl).1.mpr (by rw [e2]; exact p)
          exact Or.inr (Or.inl ⟨(b1 t a b c).mpr (Or.inl q), k, hk, kl, e1, p2.1, p2.2⟩)
        · exact Or.inl ((b2 t a b c).mpr (Or.inl ⟨q, r, RE t r h u, p⟩))
      · by_cases u : U r
        · obtain ⟨k, hk, kl, e1, e2⟩ := UE t r h u
          have p2 := (K2 k hk.1 hk.2 kl).2.mpr (by rw [e2]; exact p)
          exact Or.inr (Or.inr (Or.inl ⟨k, hk, kl, e1, p2.1, p2.2⟩))
        · exact Or.inl ((b2 t a b c).mpr (Or.inr (Or.inl ⟨r, RE t r h u, p⟩)))
      · by_cases u : U r
        · obtain ⟨k, hk, kl, e1, e2⟩ := UE t r h u
          have p2 := (K2 k hk.1 hk.2 kl).1.mpr (by rw [e2]; exact p)
          by_cases v : U s
          · obtain ⟨o, ho, ol, d1, d2⟩ := UE t s g v
            have p3 := (K2 o ho.1 ho.2 ol).1.mpr (by rw [d2]; exact q)
            rcases Int.lt_trichotomy k o with z | z | z
            · exact Or.inr (Or.inr (Or.inr ⟨k, o, ⟨hk.1, z, ho.2⟩, ⟨kl, e1, p2.1, p2.2⟩, ol, d1, p3.1, p3.2⟩))
            · subst z; omega
            · have := un2 o k ho.1 z hk.2; omega
          · exact Or.inr (Or.inl ⟨(b1 t a b c).mpr (Or.inr ⟨s, RE t s g v, q⟩), k, hk, kl, e1, p2.1, p2.2⟩)
        · by_cases v : U s
          · obtain ⟨o, ho, ol, d1, d2⟩ := UE t s g v
            have p3 := (K2 o ho.1 ho.2 ol).1.mpr (by rw [d2]; exact q)
            exact Or.inr (Or.inl ⟨(b1 t a b c).mpr (Or.inr ⟨r, RE t r h u, p⟩), o, ho, ol, d1, p3.1, p3.2⟩)
          · exact Or.inl ((b2 t a b c).mpr (Or.inr (Or.inr ⟨r, s, l, ⟨RE t r h u, p⟩, RE t s g v, q⟩)))
  have rg1 : ∀ t r : Int, y_cb lim In hd t r → 0 ≤ t ∧ t < sy ∧ 0 ≤ so t := fun t r h => by
    have y := (ty r h.1.1 h.1.2 h.2.1).1
    rw [h.2.2] at y; exact y
  obtain ⟨ρ, hρ⟩ := rk
  refine ⟨⟨fun t => ρ (so t), fun t => ⟨⟨fun w => (E1 t w.1.1 w.1.2.1 w.1.2.2).mp w.2, fun e => ?_⟩, ⟨fun w => (E2 t w.1.1 w.1.2.1 w.1.2.2).mp w.2, fun e => ?_⟩, fun w => ?_⟩⟩, fun t a b c => ⟨(FF (so t) c (soS t a b c)).1, ?_⟩⟩
  · have rr : 0 ≤ t ∧ t < sy ∧ 0 ≤ so t := by
      rcases e with e | ⟨r, h, _⟩
      · exact hL t e
      · exact rg1 t r h
    exact ⟨rr, (E1 t rr.1 rr.2.1 rr.2.2).mpr e⟩
  · have rr : 0 ≤ t ∧ t < sy ∧ 0 ≤ so t := by
      rcases e with ⟨e, _⟩ | ⟨r, h, _⟩ | ⟨r, s, _, ⟨h, _⟩, _⟩
      · exact hL t e
      · exact rg1 t r h
      · exact rg1 t r h
    exact ⟨rr, (E2 t rr.1 rr.2.1 rr.2.2).mpr e⟩
  · obtain ⟨⟨a, b, c⟩, w⟩ := w
    obtain ⟨x1, x2⟩ := hρ (so t) c (soS t a b c) w
    have xs := y_in_c (w := fun s => wn ((s * 61 + i) * 61 + j)) S0
    refine ⟨⟨x1.1, by show ρ (so t) ≤ 99; omega⟩, ?_⟩
    rcases x2 with x2 | ⟨k, hk, y1, y2, y3, y4, y5⟩
    · rcases (b1 t a b c).mp x2 with q | ⟨r, h, p⟩
      · exact Or.inl q
      · exact Or.inr ⟨r, cbI t r h, p, fun z1 z2 => absurd ((hU r).mpr ⟨z1, z2⟩) h.2.1.2⟩
    · refine Or.inr ⟨un k, K1 t k a b c hk.1 hk.2 y1 y2, (K2 k hk.1 hk.2 y1).1.mp ⟨y3, y4⟩, fun _ _ => ?_⟩
      show ρ (so (-2 - f (un k) 1)) < ρ (so t)
      rw [← hsr k hk.1 hk.2]; exact y5
  · rcases (B t a b c).2.2.2 with ⟨q1, q2⟩ | ⟨x, hx, p, q⟩
    · refine Or.inl ⟨q1, fun ⟨r, h, p⟩ => q2 ((y_BR (V := V0) T F lz l5 t).1.mpr ⟨r, h, (P r h.2.1.1 h.2.1.2).1.mpr p⟩)⟩
    · have v := ((T.2.2.2 x hx.1 hx.2).1 (by have := p.1; omega)).1
      refine Or.inr ⟨fi x, ⟨⟨v.1, p.1⟩, v.2.2, p.2.1⟩, (P _ v.2.2.1 v.2.2.2).1.mp p.2.2, q⟩
end
noncomputable def y_inv (sy : Int) (so : Int → Int) (c : Int) : Int := by
  classical exact if h : ∃ t : Int, (0 ≤ t ∧ t < sy) ∧ so t = c then Classical.choose h else -1
theorem y_inv_s {sy t : Int} {so : Int → Int} (inj : ∀ s r : Int, 0 ≤ s → s < r → r < sy → 0 ≤ so s → so s ≠ so r) (t0 : 0 ≤ t) (t1 : t < sy) (t2 : 0 ≤ so t) : y_inv sy so (so t) = t := by
  have w : ∃ r : Int, (0 ≤ r ∧ r < sy) ∧ so r = so t := ⟨t, ⟨t0, t1⟩, rfl⟩
  unfold y_inv
  rw [dif_pos w]
  have c := Classical.choose_spec w
  rcases Int.lt_trichotomy (Classical.choose w) t with z | z | z
  · exact absurd c.2 (inj _ _ c.1.1 z t1 (by omega))
  · exact z
  · exact absurd c.2.symm (inj _ _ t0 z c.1.2 t2)
/-- the sorts of the row's leaves, by their symbols -/
noncomputable def y_ls (sy : Int) (so lf : Int → Int) (k : Int) : Int := if 0 ≤ lf k then y_inv sy so (lf k) else -1
/-- what the chart is made of -/
def y_QD (σ : S0) : Prop := y_TT σ σ (σ.1 5) (σ.1 5) ∧ y_Un σ (σ.1 5) (σ.1 48) (σ.2.1 84) ∧ y_so (σ.1 3) (σ.1 11) (σ.1 46) (σ.2.1 12) (σ.2.1 8) (σ.2.1 71) ∧
  (∀ r : Int, 0 ≤ r → r < σ.1 5 → y_In σ r → (0 ≤ y_hd σ r ∧ y_hd σ r < σ.1 3 ∧ 0 ≤ σ.2.1 71 (y_hd σ r)) ∧ ∀ k : Int, 1 ≤ k → k ≤ y_nn σ r → y_f σ r k < 0 → 0 ≤ -2 - y_f σ r k ∧ -2 - y_f σ r k < σ.1 3) ∧
  ∀ k : Int, 0 ≤ k → k < σ.1 45 → σ.2.1 73 k = -1 ∨ (0 ≤ σ.2.1 73 k ∧ ∃ t : Int, (0 ≤ t ∧ t < σ.1 3) ∧ σ.2.1 71 t = σ.2.1 73 k)
theorem y_soS {sy tu n : Int} {bg iv so : Int → Int} (h : y_so sy tu n bg iv so) : ∀ t : Int, 0 ≤ t → t < sy → 0 ≤ so t → so t < n := fun t a b c => by
  rcases h.1 t a b with w | w
  · omega
  · exact w.1.2
theorem y_lsL {sy i j t : Int} {so lf : Int → Int} (inj : ∀ s r : Int, 0 ≤ s → s < r → r < sy → 0 ≤ so s → so s ≠ so r) (h : lf i = -1 ∨ (0 ≤ lf i ∧ ∃ t : Int, (0 ≤ t ∧ t < sy) ∧ so t = lf i)) : y_L (y_ls sy so lf) t i j ↔ j = i + 1 ∧ 0 ≤ lf i ∧ (0 ≤ t ∧ t < sy) ∧ so t = lf i := by
  unfold y_L y_ls
  rcases h with h | ⟨h, r, hr, e⟩
  · rw [if_neg (by omega)]
    exact ⟨fun q => by omega, fun q => by omega⟩
  · rw [if_pos h, ← e, y_inv_s inj hr.1 hr.2 (by omega)]
    constructor
    · rintro ⟨a, b, c⟩
      rw [← c]; exact ⟨a, by omega, hr, rfl⟩
    · rintro ⟨a, b, c, d⟩
      refine ⟨a, c.1, ?_⟩
      rcases Int.lt_trichotomy r t with z | z | z
      · exact absurd d.symm (inj _ _ hr.1 z c.2 (by omega))
      · exact z
      · exact absurd d (inj _ _ c.1 z hr.2 (by omega))
section
variable {sy S i j : Int} {so wy by_ fi lf : Int → Int} {N1 N2 : Int → Int → Prop}
theorem y_B_0 (z : ∀ s : Int, 0 ≤ s → s < S → wy ((s * 61 + i) * 61 + j) = 0 ∧ by_ ((s * 61 + i) * 61 + j) = -1) (soS : ∀ t : Int, 0 ≤ t → t < sy → 0 ≤ so t → so t < S) (inj : ∀ s r : Int, 0 ≤ s → s < r → r < sy → 0 ≤ so s → so s ≠ so r) (h : lf i = -1 ∨ (0 ≤ lf i ∧ ∃ t : Int, (0 ≤ t ∧ t < sy) ∧ so t = lf i)) {v : Int → Int} (hv : (¬ (j = i + 1 ∧ ¬ lf i = -1) ∧ v = wy) ∨ ((j = i + 1 ∧ ¬ lf i = -1) ∧ v = st wy ((lf i * 61 + i) * 61 + j) 1)) : y_B sy i j 1 so (fun t => y_L (y_ls sy so lf) t i j) N1 N2 fi v by_ := fun t a b c => by
  have zt := z (so t) c (soS t a b c)
  have nx : ∀ P : Int → Prop, ¬ ∃ x : Int, (1 ≤ x ∧ x < 1) ∧ P x := fun P ⟨x, hx, _⟩ => by omega
  have L := y_lsL (i := i) (j := j) (t := t) inj h
  have e : (v ((so t * 61 + i) * 61 + j) = 0 ∧ ¬ y_L (y_ls sy so lf) t i j) ∨ (v ((so t * 61 + i) * 61 + j) = 1 ∧ y_L (y_ls sy so lf) t i j) := by
    rcases hv with ⟨c1, c2⟩ | ⟨c1, c2⟩
    · exact Or.inl ⟨by rw [c2]; exact zt.1, fun q => by have := L.mp q; omega⟩
    · rw [c2]
      by_cases q : so t = lf i
      · exact Or.inr ⟨by rw [q]; exact st_s _ _ _, L.mpr ⟨c1.1, by omega, ⟨a, b⟩, q⟩⟩
      · exact Or.inl ⟨by rw [st_n _ _ (by omega)]; exact zt.1, fun y => q (L.mp y).2.2.2⟩
  refine ⟨by omega, ⟨fun q => ?_, fun q => ?_⟩, ⟨fun q => ?_, fun q => ?_⟩, Or.inl ⟨zt.2, nx _⟩⟩
  · rcases e with e | e
    · omega
    · exact Or.inl e.2
  · rcases q with q | q
    · rcases e with e | e
      · exact absurd q e.2
      · omega
    · exact absurd q (nx _)
  · rcases e with e | e <;> omega
  · rcases q with ⟨_, q⟩ | q | ⟨x, y, hx, _⟩
    · exact absurd q (nx _)
    · exact absurd q (nx _)
    · omega
end
section
variable {lim N M Z i j : Int} {row up sp fi ot le hd nn : Int → Int} {R : Int → Prop} {f : Int → Int → Int} {W V : Int → Int → Int → Prop}
theorem y_nA (F : y_Tf N fi le) (l5 : lim ≤ 1500) {x : Int} (x1 : 1 ≤ x) (xN : x < N) (l : lim ≤ le x) (t : Int) : ¬ y_N1 lim hd nn f row W i j fi x t := fun h => by
  have := F.1 x x1 xN (by have := h.1; omega)
  have := h.1
  omega
theorem y_nP (T : y_T N M Z R hd nn f up sp fi ot le) (n1 : ∀ r : Int, R r → 1 ≤ nn r) (l5 : lim ≤ 1500) {x : Int} (x1 : 1 ≤ x) (xN : x < N) (h : fi x < lim) : R (fi x) ∧ y_pt up sp (hd (fi x)) (f (fi x)) (nn (fi x)).toNat x ∧ 1 ≤ up x ∧ (nn (fi x) = 1 → sp x = f (fi x) 1 ∧ up (up x) = 0) := by
  have w := (T.2.2.2 x x1 xN).1 (by omega)
  have a := n1 _ w.1.2.2
  obtain ⟨d, hd'⟩ : ∃ d : Nat, (nn (fi x)).toNat = d + 1 := ⟨(nn (fi x)).toNat - 1, by omega⟩
  have p := w.2
  rw [hd'] at p
  refine ⟨w.1.2.2, w.2, y_pt_1 d _ p.2.2, fun z => ?_⟩
  have d0 : d = 0 := by omega
  subst d0
  exact ⟨p.2.1, p.2.2.2.1⟩
theorem y_nB (T : y_T N M Z R hd nn f up sp fi ot le) (n1 : ∀ r : Int, R r → 1 ≤ nn r) (l5 : lim ≤ 1500) {x : Int} (x1 : 1 ≤ x) (xN : x < N) (u : up x = 0) (t : Int) : ¬ y_N1 lim hd nn f row W i j fi x t := fun h => by
  have := (y_nP T n1 l5 x1 xN h.1).2.2.1
  omega
theorem y_nC (T : y_T N M Z R hd nn f up sp fi ot le) (n1 : ∀ r : Int, R r → 1 ≤ nn r) (nu : ∀ r : Int, R r → ¬ (nn r = 1 ∧ f r 1 < 0)) (l5 : lim ≤ 1500) {x : Int} (x1 : 1 ≤ x) (xN : x < N) (v : y_FV up sp x) (t : Int) : ¬ y_N1 lim hd nn f row W i j fi x t := fun h => by
  obtain ⟨a, p, _, c⟩ := y_nP T n1 l5 x1 xN h.1
  have nr := n1 _ a
  have k1 : nn (fi x) = 1 := by
    obtain ⟨d, hd'⟩ : ∃ d : Nat, (nn (fi x)).toNat = d + 1 := ⟨(nn (fi x)).toNat - 1, by omega⟩
    rw [hd'] at p
    have p2 := p.2.2
    cases d with
    | zero => omega
    | succ d =>
      have := y_pt_1 d _ p2.2.2
      have := v.2.1
      omega
  exact nu _ a ⟨k1, by rw [← (c k1).1]; exact v.2.2⟩
theorem y_nD {D : Int → Prop} {a b : Int → Int64} (T : y_T N M Z R hd nn f up sp fi ot le) (F : y_Tf N fi le) (l5 : lim ≤ 1500) (h : y_Fr N lim i j D row W V up sp le a b) (j0 : 0 ≤ j) (j1 : j < 64) {x : Int} (x1 : 1 ≤ x) (xN : x < N) (d : D x) (fl : fi x < lim) : (j_b (a x) j ↔ y_p1 row W (f (fi x)) i (nn (fi x)).toNat j) ∧ (j_b (b x) j ↔ y_p2 row W V (f (fi x)) i (nn (fi x)).toNat j) := by
  have w := (T.2.2.2 x x1 xN).1 (by omega)
  have l := F.1 x x1 xN (by omega)
  have g := h x x1 xN (by omega) _ _ _ w.2 j j0 j1
  exact ⟨g.1.trans ⟨fun z => z.2, fun z => ⟨Or.inr ⟨rfl, d⟩, z⟩⟩, g.2.trans ⟨fun z => z.2, fun z => ⟨Or.inr ⟨rfl, d⟩, z⟩⟩⟩
/-- the front above has its bits in it -/
theorem y_BA {D : Int → Prop} {a b : Int → Int64} (T : y_T N M Z R hd nn f up sp fi ot le) (vw : ∀ t p q : Int, V t p q → W t p q) (h : y_Fr N lim i j D row W V up sp le a b) {x : Int} (x1 : 1 ≤ x) (xN : x < N) (lx : le x < lim) (u1 : 1 ≤ up x) : ∀ q : Int, 0 ≤ q → q < 64 → j_b (b (up x)) q → j_b (a (up x)) q := fun q q0 q1 c => by
  obtain ⟨_, ⟨k, _, p⟩, lu⟩ := T.2.2.1 x x1 xN
  have ux := (T.1 x x1 xN).2
  have l := lu u1
  cases k with
  | zero => have := p.2.1; omega
  | succ k =>
    have g := h (up x) u1 (by omega) (by omega) k _ _ p.2.2 q q0 q1
    have y := g.2.mp c
    exact g.1.mpr ⟨y.1, y_p21 vw _ _ y.2⟩
/-- a node's step is a symbol or tells a type -/
theorem y_sp {sy : Int} (T : y_T N M Z R hd nn f up sp fi ot le) (ty : ∀ r : Int, 0 ≤ r → r < M → R r → ∀ k : Int, 1 ≤ k → k ≤ nn r → f r k < 0 → 0 ≤ -2 - f r k ∧ -2 - f r k < sy) {x : Int} (x1 : 1 ≤ x) (xN : x < N) (u1 : 1 ≤ up x) : sp x < 0 → 0 ≤ -2 - sp x ∧ -2 - sp x < sy := fun s0 => by
  obtain ⟨w, ⟨k, kn, p⟩, _⟩ := T.2.2.1 x x1 xN
  cases k with
  | zero => have := p.2.1; omega
  | succ k =>
    rw [p.2.1] at s0 ⊢
    exact ty _ w.1 w.2.1 w.2.2 _ (by omega) (by omega) s0
end
/-- starts with the new cell -/
theorem y_St_n {sy S len i j : Int} {so wy wn : Int → Int} {s1 s2 r1 r2 : Int → Int64} (h : y_St sy len i (j - 1) so (y_W1 sy so wy) (y_W2 sy so wy) s1 s2) (soS : ∀ t : Int, 0 ≤ t → t < sy → 0 ≤ so t → so t < S) (inj : ∀ s r : Int, 0 ≤ s → s < r → r < sy → 0 ≤ so s → so s ≠ so r) (i0 : 0 ≤ i) (ij : i < j) (jl : j ≤ len) (l59 : len ≤ 59)
    (e : ∀ s : Int, 0 ≤ s → s < S → ∀ p q : Int, 0 ≤ p → p ≤ 60 → 0 ≤ q → q ≤ 60 → ¬ (p = i ∧ q = j) → wn ((s * 61 + p) * 61 + q) = wy ((s * 61 + p) * 61 + q))
    (n : ∀ s : Int, 0 ≤ s → s < S → ∀ q : Int, 0 ≤ q → q < 64 → (j_b (r1 (61 * s + j)) q ↔ j_b (s1 (61 * s + j)) q ∨ (q = i ∧ 1 ≤ wn ((s * 61 + i) * 61 + j))) ∧ (j_b (r2 (61 * s + j)) q ↔ j_b (s2 (61 * s + j)) q ∨ (q = i ∧ 2 ≤ wn ((s * 61 + i) * 61 + j))))
    (o : ∀ s q : Int, 0 ≤ s → s < S → 0 ≤ q → q ≤ 60 → q ≠ j → r1 (61 * s + q) = s1 (61 * s + q) ∧ r2 (61 * s + q) = s2 (61 * s + q)) : y_St sy len i j so (y_W1 sy so wn) (y_W2 sy so wn) r1 r2 := fun t t0 t1 ts q q0 ql p p0 p1 => by
  have sS := soS t t0 t1 ts
  have w := h t t0 t1 ts q q0 ql p p0 p1
  have ee : ∀ P : Prop, (P → p < q) → ¬ (p = i ∧ q = j) → ((P ∧ y_W1 sy so wy t p q ↔ P ∧ y_W1 sy so wn t p q) ∧ (P ∧ y_W2 sy so wy t p q ↔ P ∧ y_W2 sy so wn t p q)) := fun P hP np => by
    have x := fun pp => e (so t) ts sS p q p0 (by have := hP pp; omega) q0 (by omega) np
    unfold y_W1 y_W2
    exact ⟨⟨fun ⟨a, b, c⟩ => ⟨a, b, by rw [x a]; exact c⟩, fun ⟨a, b, c⟩ => ⟨a, b, by rw [← x a]; exact c⟩⟩, ⟨fun ⟨a, b, c⟩ => ⟨a, b, by rw [x a]; exact c⟩, fun ⟨a, b, c⟩ => ⟨a, b, by rw [← x a]; exact c⟩⟩⟩
  by_cases z : q = j
  · subst z
    obtain ⟨n1, n2⟩ := n (so t) ts sS p p0 p1
    rw [n1, n2, w.1, w.2]
    by_cases y : p = i
    · subst y
      have f : ¬ ((p < p ∨ (p = p ∧ q ≤ q - 1)) ∧ p < q) := by omega
      refine ⟨⟨fun c => ?_, fun c => Or.inr ⟨rfl, c.2.2⟩⟩, ⟨fun c => ?_, fun c => Or.inr ⟨rfl, c.2.2⟩⟩⟩
      · rcases c with c | c
        · exact absurd c.1 f
        · exact ⟨⟨Or.inr ⟨rfl, Int.le_refl _⟩, ij⟩, ⟨t0, t1, ts⟩, c.2⟩
      · rcases c with c | c
        · exact absurd c.1 f
        · exact ⟨⟨Or.inr ⟨rfl, Int.le_refl _⟩, ij⟩, ⟨t0, t1, ts⟩, c.2⟩
    · have g : ((i < p ∨ (p = i ∧ q ≤ q - 1)) ∧ p < q) ↔ ((i < p ∨ (p = i ∧ q ≤ q)) ∧ p < q) := by omega
      have x := ee _ (fun c : ((i < p ∨ (p = i ∧ q ≤ q)) ∧ p < q) => c.2) (by omega)
      rw [g]
      exact ⟨⟨fun c => c.elim (fun c => x.1.mp c) (fun c => absurd c.1 y), fun c => Or.inl (x.1.mpr c)⟩, ⟨fun c => c.elim (fun c => x.2.mp c) (fun c => absurd c.1 y), fun c => Or.inl (x.2.mpr c)⟩⟩
  · obtain ⟨o1, o2⟩ := o (so t) q ts sS q0 (by omega) z
    rw [o1, o2, w.1, w.2]
    have x := ee _ (fun c : ((i < p ∨ (p = i ∧ q ≤ j)) ∧ p < q) => c.2) (by omega)
    have g : ((i < p ∨ (p = i ∧ q ≤ j - 1)) ∧ p < q) ↔ ((i < p ∨ (p = i ∧ q ≤ j)) ∧ p < q) := by omega
    rw [g]
    exact x
theorem y_S21 {sy len i J : Int} {so : Int → Int} {W V : Int → Int → Int → Prop} {s1 s2 : Int → Int64} (h : y_St sy len i J so W V s1 s2) (vw : ∀ t p q : Int, V t p q → W t p q) {t j : Int} (t0 : 0 ≤ t) (t1 : t < sy) (ts : 0 ≤ so t) (j0 : 0 ≤ j) (jl : j ≤ len) : ∀ q : Int, 0 ≤ q → q < 64 → j_b (s2 (61 * so t + j)) q → j_b (s1 (61 * so t + j)) q := fun q a b c => by
  have w := h t t0 t1 ts j j0 jl q a b
  have y := w.2.mp c
  exact w.1.mpr ⟨y.1, vw _ _ _ y.2⟩
theorem y_D1 {u : Int} {F : Int → Prop} {x : Int} (h : x = u → F x) : (x < u ∧ ¬ F x) ↔ (x < u + 1 ∧ ¬ F x) := ⟨fun a => ⟨by omega, a.2⟩, fun a => ⟨by
  rcases (by omega : x < u ∨ x = u) with q | q
  · exact q
  · exact absurd (h q) a.2, a.2⟩⟩
theorem y_D2 {u : Int} {F : Int → Prop} (n : ¬ F u) {x : Int} : ((x < u ∧ ¬ F x) ∨ x = u) ↔ (x < u + 1 ∧ ¬ F x) := ⟨fun a => a.elim (fun a => ⟨by omega, a.2⟩) (fun a => ⟨by omega, by rw [a]; exact n⟩), fun a => by
  rcases (by omega : x < u ∨ x = u) with q | q
  · exact Or.inl ⟨q, a.2⟩
  · exact Or.inr q⟩
theorem y_nE {lim N M Z i j : Int} {row up sp fi ot le hd nn : Int → Int} {R : Int → Prop} {f : Int → Int → Int} {W V : Int → Int → Int → Prop} {D D' : Int → Prop} {a b : Int → Int64} (T : y_T N M Z R hd nn f up sp fi ot le) (F : y_Tf N fi le) (l5 : lim ≤ 1500) (h : y_Fr N lim i j D row W V up sp le a b) (h' : y_Fr N lim i j D' row W V up sp le a b) (j0 : 0 ≤ j) (j1 : j < 64) {x : Int} (x1 : 1 ≤ x) (xN : x < N) (d : ¬ D x) (d' : D' x) (t : Int) : ¬ y_N1 lim hd nn f row W i j fi x t := fun q => by
  have w := (T.2.2.2 x x1 xN).1 (by have := q.1; omega)
  have l := F.1 x x1 xN (by have := q.1; omega)
  have g := h x x1 xN (by have := q.1; omega) _ _ _ w.2 j j0 j1
  have g' := (y_nD T F l5 h' j0 j1 x1 xN d' q.1).1.mpr q.2.2
  rcases (g.1.mp g').1 with c | c
  · omega
  · exact d c.2
/-- the cell as countStretch leaves it -/
def y_CS (σ : S0) (wn by_ : Int → Int) (i j lim : Int) : Prop := (∀ s : Int, 0 ≤ s → s < σ.1 46 → ∀ p q : Int, 0 ≤ p → p ≤ 60 → 0 ≤ q → q ≤ 60 → ¬ (p = i ∧ q = j) → wn ((s * 61 + p) * 61 + q) = σ.2.1 75 ((s * 61 + p) * 61 + q) ∧ by_ ((s * 61 + p) * 61 + q) = σ.2.1 76 ((s * 61 + p) * 61 + q)) ∧
  (∃ ρ : Int → Int, ∀ t : Int, y_ok lim (y_In σ) (y_hd σ) (y_nn σ) (y_f σ) (σ.2.1 72) (y_ls (σ.1 3) (σ.2.1 71) (σ.2.1 73)) (y_W1 (σ.1 3) (σ.2.1 71) wn) (y_W2 (σ.1 3) (σ.2.1 71) wn) (fun t _ _ => ρ t) t i j) ∧
  ∀ t : Int, 0 ≤ t → t < σ.1 3 → 0 ≤ σ.2.1 71 t → (0 ≤ wn ((σ.2.1 71 t * 61 + i) * 61 + j) ∧ wn ((σ.2.1 71 t * 61 + i) * 61 + j) ≤ 2) ∧ ((by_ ((σ.2.1 71 t * 61 + i) * 61 + j) = -1 ∧ ¬ ∃ r : Int, y_cb lim (y_RN σ) (y_hd σ) t r ∧ y_p1 (σ.2.1 72) (y_W1 (σ.1 3) (σ.2.1 71) wn) (y_f σ r) i (y_nn σ r).toNat j) ∨ ∃ r : Int, y_cb lim (y_RN σ) (y_hd σ) t r ∧ y_p1 (σ.2.1 72) (y_W1 (σ.1 3) (σ.2.1 71) wn) (y_f σ r) i (y_nn σ r).toNat j ∧ by_ ((σ.2.1 71 t * 61 + i) * 61 + j) = r)
theorem y_D3 {u : Int} {F : Int → Prop} {x : Int} (h : x = u → ¬ F x) : (¬ F x ∨ x < u) ↔ (¬ F x ∨ x < u + 1) := ⟨fun a => a.imp id (fun a => by omega), fun a => by
  rcases a with a | a
  · exact Or.inl a
  · rcases (by omega : x < u ∨ x = u) with q | q
    · exact Or.inr q
    · exact Or.inl (h q)⟩
theorem y_D4 {u : Int} {F : Int → Prop} {x : Int} : ((¬ F x ∨ x < u) ∨ x = u) ↔ (¬ F x ∨ x < u + 1) := ⟨fun a => a.elim (fun a => a.imp id (fun a => by omega)) (fun a => Or.inr (by omega)), fun a => a.elim (fun a => Or.inl (Or.inl a)) (fun a => by
  rcases (by omega : x < u ∨ x = u) with q | q
  · exact Or.inl (Or.inr q)
  · exact Or.inr q)⟩
theorem y_ss {i j u : Int} {wy : Int → Int} {a b r1 r2 : Int → Int64} {y1 y2 : Int64} (n : ∀ s : Int, 0 ≤ s → s < u → ∀ q : Int, 0 ≤ q → q < 64 → (j_b (r1 (61 * s + j)) q ↔ j_b (a (61 * s + j)) q ∨ (q = i ∧ 1 ≤ wy ((s * 61 + i) * 61 + j))) ∧ (j_b (r2 (61 * s + j)) q ↔ j_b (b (61 * s + j)) q ∨ (q = i ∧ 2 ≤ wy ((s * 61 + i) * 61 + j)))) (o : ∀ e : Int, (∀ s : Int, 0 ≤ s → s < u → e ≠ 61 * s + j) → r1 e = a e ∧ r2 e = b e) (u0 : 0 ≤ u)
    (h1 : ∀ q : Int, 0 ≤ q → q < 64 → (j_b y1 q ↔ q = i ∧ 1 ≤ wy ((u * 61 + i) * 61 + j))) (h2 : ∀ q : Int, 0 ≤ q → q < 64 → (j_b y2 q ↔ q = i ∧ 2 ≤ wy ((u * 61 + i) * 61 + j))) :
    (∀ s : Int, 0 ≤ s → s < u + 1 → ∀ q : Int, 0 ≤ q → q < 64 → (j_b (st r1 (61 * u + j) (r1 (61 * u + j) ||| y1) (61 * s + j)) q ↔ j_b (a (61 * s + j)) q ∨ (q = i ∧ 1 ≤ wy ((s * 61 + i) * 61 + j))) ∧ (j_b (st r2 (61 * u + j) (r2 (61 * u + j) ||| y2) (61 * s + j)) q ↔ j_b (b (61 * s + j)) q ∨ (q = i ∧ 2 ≤ wy ((s * 61 + i) * 61 + j)))) ∧ ∀ e : Int, (∀ s : Int, 0 ≤ s → s < u + 1 → e ≠ 61 * s + j) → st r1 (61 * u + j) (r1 (61 * u + j) ||| y1) e = a e ∧ st r2 (61 * u + j) (r2 (61 * u + j) ||| y2) e = b e := by
  have ou := o (61 * u + j) (fun s a b => by omega)
  refine ⟨fun s s0 s1 q q0 q1 => ?_, fun e h => ?_⟩
  · rcases (by omega : s < u ∨ s = u) with z | z
    · rw [st_n _ _ (show 61 * s + j ≠ 61 * u + j by omega), st_n _ _ (show 61 * s + j ≠ 61 * u + j by omega)]
      exact n s s0 z q q0 q1
    · rw [z, st_s, st_s, j_b_or, j_b_or, h1 q q0 q1, h2 q q0 q1, ou.1, ou.2]
      exact ⟨Iff.rfl, Iff.rfl⟩
  · have ne := h u u0 (by omega)
    rw [st_n _ _ ne, st_n _ _ ne]
    exact o e (fun s a b => h s a (by omega))
theorem y_ty {σ : S0} {r k : Int} (h : y_f σ r k < 0) (t : 0 ≤ σ.2.1 16 (σ.2.1 14 r + k)) : y_f σ r k = -2 - σ.2.1 10 (σ.2.1 16 (σ.2.1 14 r + k)) := by
  unfold y_f at h ⊢
  by_cases z : σ.2.1 8 (σ.2.1 16 (σ.2.1 14 r + k)) = 0
  · rw [if_pos z] at h; omega
  · rw [if_neg z]
theorem y_CS_w {σ : S0} {wn by_ : Int → Int} {i j lim : Int} (h : y_CS σ wn by_ i j lim) (soS : ∀ t : Int, 0 ≤ t → t < σ.1 3 → 0 ≤ σ.2.1 71 t → σ.2.1 71 t < σ.1 46) : ∀ t p q : Int, 0 ≤ p → p ≤ 60 → 0 ≤ q → q ≤ 60 → ¬ (p = i ∧ q = j) → (y_W1 (σ.1 3) (σ.2.1 71) (σ.2.1 75) t p q ↔ y_W1 (σ.1 3) (σ.2.1 71) wn t p q) ∧ (y_W2 (σ.1 3) (σ.2.1 71) (σ.2.1 75) t p q ↔ y_W2 (σ.1 3) (σ.2.1 71) wn t p q) := fun t p q a b c d e => by
  unfold y_W1 y_W2
  have x := fun hh : 0 ≤ t ∧ t < σ.1 3 ∧ 0 ≤ σ.2.1 71 t => (h.1 _ hh.2.2 (soS t hh.1 hh.2.1 hh.2.2) p q a b c d e).1
  exact ⟨⟨fun ⟨y, z⟩ => ⟨y, by rw [x y]; exact z⟩, fun ⟨y, z⟩ => ⟨y, by rw [← x y]; exact z⟩⟩, ⟨fun ⟨y, z⟩ => ⟨y, by rw [x y]; exact z⟩, fun ⟨y, z⟩ => ⟨y, by rw [← x y]; exact z⟩⟩⟩
/-- a node whose front above is empty -/
theorem y_sk {sy len lim N i j J u : Int} {so row up sp le : Int → Int} {W V : Int → Int → Int → Prop} {s1 s2 : Int → Int64} {a b : Int → Int64} (St : y_St sy len i J so W V s1 s2) (vw : ∀ t p q : Int, V t p q → W t p q) (wr : ∀ t p q : Int, W t p q → 0 ≤ t ∧ t < sy ∧ 0 ≤ so t) (h : y_Fr N lim i j (fun z => z < u ∧ ¬ y_FV up sp z) row W V up sp le a b) (i0 : 0 ≤ i) (ij : i < j) (jl : j ≤ len) (l59 : len ≤ 59) (x1 : 1 ≤ u) (xN : u < N) (lx : le u < lim) (u1 : 1 ≤ up u) (uN : up u < N) (ul : le (up u) ≤ le u) (ty : sp u < 0 → 0 ≤ -2 - sp u ∧ -2 - sp u < sy) (z : a (up u) = 0) (ba : ∀ q : Int, 0 ≤ q → q < 64 → j_b (b (up u)) q → j_b (a (up u)) q) : y_Fr N lim i j (fun z => z < u + 1 ∧ ¬ y_FV up sp z) row W V up sp le a b := by
  by_cases fv : y_FV up sp u
  · exact y_Fr_d h (fun x a b c d => y_D1 (fun z => by rw [z]; exact fv)) ij
  · have nA : ∀ q : Int, ¬ j_b (a (up u)) q := fun q => by rw [z]; exact j_b_0 q
    have g1 : ¬ y_g1 j (sp u) (so (-2 - sp u)) row (a (up u)) s1 := by
      rintro (⟨_, _, c⟩ | ⟨_, _, p, _, c, _⟩)
      · exact nA _ c
      · exact nA _ c
    have g2 : ¬ y_g2 j (sp u) (so (-2 - sp u)) row (a (up u)) (b (up u)) s1 s2 := by
      rintro (⟨_, _, c, _⟩ | ⟨_, _, ⟨p, hp, ⟨c, _⟩ | ⟨c, _⟩⟩ | ⟨p, o, _, ⟨c, _⟩, _⟩⟩)
      · exact nA _ c
      · exact nA _ (ba p hp.1 hp.2 c)
      · exact nA _ c
      · exact nA _ c
    exact y_Fr_d (y_Fr_s St vw wr h i0 ij jl l59 x1 xN lx u1 uN ul (Or.inl fv) ty (y_gt_0 g1 g2)) (fun x a b c d => y_D2 fv) ij
/-- units, as closeUnits wants them -/
theorem y_ut {σ : S0} (hU : y_Un σ (σ.1 5) (σ.1 48) (σ.2.1 84)) (hS : y_so (σ.1 3) (σ.1 11) (σ.1 46) (σ.2.1 12) (σ.2.1 8) (σ.2.1 71)) (hD : ∀ r : Int, 0 ≤ r → r < σ.1 5 → y_In σ r → (0 ≤ y_hd σ r ∧ y_hd σ r < σ.1 3 ∧ 0 ≤ σ.2.1 71 (y_hd σ r)) ∧ ∀ k : Int, 1 ≤ k → k ≤ y_nn σ r → y_f σ r k < 0 → 0 ≤ -2 - y_f σ r k ∧ -2 - y_f σ r k < σ.1 3) (hT : m_T σ) : ∀ k : Int, 0 ≤ k → k < σ.1 48 → (0 ≤ (fun k => σ.2.1 71 (σ.2.1 16 (σ.2.1 14 (σ.2.1 84 k)))) k ∧ (fun k => σ.2.1 71 (σ.2.1 16 (σ.2.1 14 (σ.2.1 84 k)))) k < σ.1 46) ∧ (0 ≤ σ.2.1 10 (σ.2.1 16 (σ.2.1 14 (σ.2.1 84 k) + 1))) ∧ (fun k => σ.2.1 71 (σ.2.1 10 (σ.2.1 16 (σ.2.1 14 (σ.2.1 84 k) + 1)))) k < σ.1 46 := fun k k0 k1 => by
  obtain ⟨u0, u1, u2⟩ := hU.1 k k0 k1
  obtain ⟨d1, d2⟩ := hD _ u0.1 u0.2 u1
  have s1 := y_soS hS _ d1.1 d1.2.1 d1.2.2
  have t0 : 0 ≤ σ.2.1 16 (σ.2.1 14 (σ.2.1 84 k) + 1) := (hT.2 16 _).1
  have e := y_ty u2.2 t0
  have d3 := d2 1 (Int.le_refl _) (by rw [u2.1]; exact Int.le_refl _) u2.2
  rw [e] at d3
  refine ⟨⟨d1.2.2, s1⟩, by omega, ?_⟩
  show σ.2.1 71 (σ.2.1 10 (σ.2.1 16 (σ.2.1 14 (σ.2.1 84 k) + 1))) < σ.1 46
  rcases hS.1 (σ.2.1 10 (σ.2.1 16 (σ.2.1 14 (σ.2.1 84 k) + 1))) (by omega) (by omega) with w | w
  · have : 0 ≤ σ.2.1 71 (y_hd σ (σ.2.1 84 k)) := d1.2.2
    omega
  · exact w.1.2
/-- the cell, of all that was found -/
theorem y_mk {σ : S0} {w0 wn by_ : Int → Int} {i j lim u : Int} (T : y_T (σ.1 47) (σ.1 5) (σ.1 5) (y_RN σ) (y_hd σ) (y_nn σ) (y_f σ) (σ.2.1 78) (σ.2.1 77) (σ.2.1 81) (σ.2.1 82) (σ.2.1 83)) (F : y_Tf (σ.1 47) (σ.2.1 81) (σ.2.1 83)) (hU : y_Un σ (σ.1 5) (σ.1 48) (σ.2.1 84)) (hS : y_so (σ.1 3) (σ.1 11) (σ.1 46) (σ.2.1 12) (σ.2.1 8) (σ.2.1 71)) (hD : ∀ r : Int, 0 ≤ r → r < σ.1 5 → y_In σ r → (0 ≤ y_hd σ r ∧ y_hd σ r < σ.1 3 ∧ 0 ≤ σ.2.1 71 (y_hd σ r)) ∧ ∀ k : Int, 1 ≤ k → k ≤ y_nn σ r → y_f σ r k < 0 → 0 ≤ -2 - y_f σ r k ∧ -2 - y_f σ r k < σ.1 3) (hL : ∀ k : Int, 0 ≤ k → k < σ.1 45 → σ.2.1 73 k = -1 ∨ (0 ≤ σ.2.1 73 k ∧ ∃ t : Int, (0 ≤ t ∧ t < σ.1 3) ∧ σ.2.1 71 t = σ.2.1 73 k)) (hT : m_T σ) (ll : lim ≤ σ.1 5) (l5 : lim ≤ 1500) (i0 : 0 ≤ i) (ij : i < j) (jl : j ≤ σ.1 45)
    (B : y_B (σ.1 3) i j u (σ.2.1 71) (fun t => y_L (y_ls (σ.1 3) (σ.2.1 71) (σ.2.1 73)) t i j) (y_N1 lim (y_hd σ) (y_nn σ) (y_f σ) (σ.2.1 72) (y_W1 (σ.1 3) (σ.2.1 71) (σ.2.1 75)) i j (σ.2.1 81)) (y_N2 lim (y_hd σ) (y_nn σ) (y_f σ) (σ.2.1 72) (y_W1 (σ.1 3) (σ.2.1 71) (σ.2.1 75)) (y_W2 (σ.1 3) (σ.2.1 71) (σ.2.1 75)) i j (σ.2.1 81) (σ.2.1 82)) (σ.2.1 81) w0 by_)
    (FF : y_FF (σ.1 46) (σ.1 48) (fun k => σ.2.1 84 k < lim) (fun k => σ.2.1 71 (σ.2.1 16 (σ.2.1 14 (σ.2.1 84 k)))) (fun k => σ.2.1 71 (σ.2.1 10 (σ.2.1 16 (σ.2.1 14 (σ.2.1 84 k) + 1)))) (fun s => w0 ((s * 61 + i) * 61 + j)) (fun s => wn ((s * 61 + i) * 61 + j)))
    (rk : ∃ ρ : Int → Int, y_rk (σ.1 46) (σ.1 48) (fun k => σ.2.1 84 k < lim) (fun k => σ.2.1 71 (σ.2.1 16 (σ.2.1 14 (σ.2.1 84 k)))) (fun k => σ.2.1 71 (σ.2.1 10 (σ.2.1 16 (σ.2.1 14 (σ.2.1 84 k) + 1)))) (fun s => w0 ((s * 61 + i) * 61 + j)) (fun s => wn ((s * 61 + i) * 61 + j)) ρ)
    (fr : ∀ s : Int, 0 ≤ s → s < σ.1 46 → ∀ p q : Int, 0 ≤ p → p ≤ 60 → 0 ≤ q → q ≤ 60 → ¬ (p = i ∧ q = j) → w0 ((s * 61 + p) * 61 + q) = σ.2.1 75 ((s * 61 + p) * 61 + q) ∧ by_ ((s * 61 + p) * 61 + q) = σ.2.1 76 ((s * 61 + p) * 61 + q)) (fn : ∀ e : Int, (∀ s : Int, 0 ≤ s → s < σ.1 46 → e ≠ (s * 61 + i) * 61 + j) → wn e = w0 e) (uN : u = σ.1 47) : y_CS σ wn by_ i j lim := by
  have inj := hS.2
  have soS := y_soS hS
  have l59 : σ.1 45 ≤ 59 := (hT.1 45).2
  have fr' : ∀ s : Int, 0 ≤ s → s < σ.1 46 → ∀ p q : Int, 0 ≤ p → p ≤ 60 → 0 ≤ q → q ≤ 60 → ¬ (p = i ∧ q = j) → wn ((s * 61 + p) * 61 + q) = σ.2.1 75 ((s * 61 + p) * 61 + q) ∧ by_ ((s * 61 + p) * 61 + q) = σ.2.1 76 ((s * 61 + p) * 61 + q) := fun s a b p q c d e f g => by
    have w := fr s a b p q c d e f g
    exact ⟨(fn _ (fun r _ _ => by omega)).trans w.1, w.2⟩
  subst uN
  have v21 := y_W21 (σ.1 3) (σ.2.1 71) (σ.2.1 75)
  have S1 : σ.1 46 ≤ 100 := (hT.1 46).2
  have S0 : 0 ≤ σ.1 46 := (hT.1 46).1
  have w := y_cell (U := y_U σ) (In := y_In σ) (sr := fun k => σ.2.1 71 (σ.2.1 10 (σ.2.1 16 (σ.2.1 14 (σ.2.1 84 k) + 1)))) (un := σ.2.1 84) (uc := σ.1 48) T F ll l5 (fun r => Iff.rfl) (fun r h => by have w := h.1.1.2.1; show 1 ≤ σ.2.1 15 r - 1; omega) soS inj S1 S0
    (fun r a b c => ⟨(hD r a (by omega) c).1, fun u => (hD r a (by omega) c).2 1 (Int.le_refl _) (by rw [u.1]; exact Int.le_refl _) u.2⟩)
    (fun t h => by have q := (y_lsL inj (hL i i0 (by omega))).mp h; exact ⟨q.2.2.1.1, q.2.2.1.2, by omega⟩)
    (fun k a b => ⟨(hU.1 k a b).1.1, (hU.1 k a b).2⟩) (fun k o a b c => hU.2.1 k o a b c) (fun r a b c d => hU.2.2 r a (by omega) c d)
    (fun k a b => by
      have t0 : 0 ≤ σ.2.1 16 (σ.2.1 14 (σ.2.1 84 k) + 1) := (hT.2 16 _).1
      have e := y_ty (hU.1 k a b).2.2.2 t0
      show σ.2.1 71 (σ.2.1 10 (σ.2.1 16 (σ.2.1 14 (σ.2.1 84 k) + 1))) = σ.2.1 71 (-2 - y_f σ (σ.2.1 84 k) 1)
      rw [e, show -2 - (-2 - σ.2.1 10 (σ.2.1 16 (σ.2.1 14 (σ.2.1 84 k) + 1))) = σ.2.1 10 (σ.2.1 16 (σ.2.1 14 (σ.2.1 84 k) + 1)) by omega])
    v21 i0 ij
    (fun t p q a b c d => by
      unfold y_W1 y_W2
      have x := fun hh : 0 ≤ t ∧ t < σ.1 3 ∧ 0 ≤ σ.2.1 71 t => (fr' _ hh.2.2 (soS t hh.1 hh.2.1 hh.2.2) p q (by omega) (by omega) (by omega) (by omega) d).1
      exact ⟨⟨fun ⟨y, z⟩ => ⟨y, by rw [x y]; exact z⟩, fun ⟨y, z⟩ => ⟨y, by rw [← x y]; exact z⟩⟩, ⟨fun ⟨y, z⟩ => ⟨y, by rw [x y]; exact z⟩, fun ⟨y, z⟩ => ⟨y, by rw [← x y]; exact z⟩⟩⟩)
    B FF rk
  exact ⟨fr', w.1, w.2⟩
set_option maxHeartbeats 1000000 in
theorem K_X13_isSortNode {n1 : Int} {σ : S0} (hT : m_T σ) (p1 : 0 ≤ n1) (p2 : n1 < 30002) : W_X13_isSortNode n1 σ (fun (x : Int) => (0 ≤ x ∧ x ≤ 1) ∧ (¬ x = 0 ↔ σ.2.1 78 n1 = 0)) := by
  have A78 : ∀ j, (-1) ≤ σ.2.1 78 j ∧ σ.2.1 78 j ≤ 30001 := fun j => hT.2 78 j
  unfold W_X13_isSortNode
  refine ⟨(show 0 ≤ n1 ∧ n1 < 30002 from by (first | omega | (simp only [st_s] <;> omega) | assumption | omega | fail)), ?_⟩
  intro x2 r_x2 e_x2
  have b_x2 : (-1) ≤ x2 ∧ x2 ≤ 30001 := by rw [e_x2]; exact hT.2 78 _
  refine ⟨fun c3 => ?_, fun c3 => ?_⟩
  ·
    exact ⟨(show 0 ≤ 0 ∧ 0 ≤ 1 from by (first | omega | (simp only [st_s] <;> omega) | assumption | omega | fail)), (show ¬ 0 = 0 ↔ σ.2.1 78 n1 = 0 from by (constructor <;> intro z <;> omega))⟩
  ·
    exact ⟨(show 0 ≤ 1 ∧ 1 ≤ 1 from by (first | omega | (simp only [st_s] <;> omega) | assumption | omega | fail)), (show ¬ 1 = 0 ↔ σ.2.1 78 n1 = 0 from by (constructor <;> intro z <;> omega))⟩
set_option maxHeartbeats 1000000 in
theorem K_X13_isFirstVariable {n1 : Int} {σ : S0} (hT : m_T σ) (p1 : 0 ≤ n1) (p2 : n1 < 30002) (p3 : 1 ≤ σ.2.1 78 n1) : W_X13_isFirstVariable n1 σ (fun (x : Int) => (0 ≤ x ∧ x ≤ 1) ∧ (¬ x = 0 ↔ y_FV (σ.2.1 78) (σ.2.1 77) n1)) := by
  have A77 : ∀ j, (-1001) ≤ σ.2.1 77 j ∧ σ.2.1 77 j ≤ 999 := fun j => hT.2 77 j
  have A78 : ∀ j, (-1) ≤ σ.2.1 78 j ∧ σ.2.1 78 j ≤ 30001 := fun j => hT.2 78 j
  unfold W_X13_isFirstVariable
  refine ⟨(show 0 ≤ n1 ∧ n1 < 30002 from by (first | omega | (simp only [st_s] <;> omega) | assumption | omega | fail)), ?_⟩
  intro x2 r_x2 e_x2
  have b_x2 : (-1) ≤ x2 ∧ x2 ≤ 30001 := by rw [e_x2]; exact hT.2 78 _
  refine ⟨_, K_X13_isSortNode hT (show 0 ≤ x2 from by (first | omega | (simp only [st_s] <;> omega) | assumption | omega | fail)) (show x2 < 30002 from by (first | omega | (simp only [st_s] <;> omega) | assumption | omega | fail)), ?_⟩
  intro x4 r_x4 hq
  obtain ⟨q3_1, q3_2⟩ := hq
  replace q3_1 : 0 ≤ x4 ∧ x4 ≤ 1 := q3_1
  replace q3_2 : ¬ x4 = 0 ↔ σ.2.1 78 x2 = 0 := q3_2
  refine ⟨fun c6 => ?_, fun c6 => ?_⟩
  ·
    exact ⟨(show 0 ≤ 0 ∧ 0 ≤ 1 from by (first | omega | (simp only [st_s] <;> omega) | assumption | omega | fail)), (show ¬ 0 = 0 ↔ y_FV (σ.2.1 78) (σ.2.1 77) n1 from by (unfold y_FV; rw [← e_x2]; rw [← e_x2] at p3; first | (refine ⟨fun q => absurd rfl q, fun g => ?_⟩; have w := q3_2.mpr g.2.1; omega) | (refine ⟨fun q => absurd rfl q, fun g => ?_⟩; have w := g.2.2; omega) | (exact ⟨fun _ => ⟨p3, q3_2.mp (by assumption), by omega⟩, fun _ => by omega⟩)))⟩
  ·
    intro x7 r_x7 e_x7
    have b_x7 : (-1001) ≤ x7 ∧ x7 ≤ 999 := by rw [e_x7]; exact hT.2 77 _
    refine ⟨fun c8 => ?_, fun c8 => ?_⟩
    ·
      exact ⟨(show 0 ≤ 0 ∧ 0 ≤ 1 from by (first | omega | (simp only [st_s] <;> omega) | assumption | omega | fail)), (show ¬ 0 = 0 ↔ y_FV (σ.2.1 78) (σ.2.1 77) n1 from by (unfold y_FV; rw [← e_x2]; rw [← e_x2] at p3; first | (refine ⟨fun q => absurd rfl q, fun g => ?_⟩; have w := q3_2.mpr g.2.1; omega) | (refine ⟨fun q => absurd rfl q, fun g => ?_⟩; have w := g.2.2; omega) | (exact ⟨fun _ => ⟨p3, q3_2.mp (by assumption), by omega⟩, fun _ => by omega⟩)))⟩
    ·
      exact ⟨(show 0 ≤ 1 ∧ 1 ≤ 1 from by (first | omega | (simp only [st_s] <;> omega) | assumption | omega | fail)), (show ¬ 1 = 0 ↔ y_FV (σ.2.1 78) (σ.2.1 77) n1 from by (unfold y_FV; rw [← e_x2]; rw [← e_x2] at p3; first | (refine ⟨fun q => absurd rfl q, fun g => ?_⟩; have w := q3_2.mpr g.2.1; omega) | (refine ⟨fun q => absurd rfl q, fun g => ?_⟩; have w := g.2.2; omega) | (exact ⟨fun _ => ⟨p3, q3_2.mp (by assumption), by omega⟩, fun _ => by omega⟩)))⟩
set_option maxHeartbeats 16000000 in
theorem K_X13_countStretch {n1 : Int} {n2 : Int} {n3 : Int} {σ : S0} (hT : m_T σ) (p1 : 0 ≤ n1) (p2 : n1 < n2) (p3 : n2 ≤ (σ.1 45)) (p4 : 0 ≤ n3 ∧ n3 ≤ (σ.1 5)) (p5 : y_QD σ) (p6 : ∀ s : Int, 0 ≤ s → s < (σ.1 46) → σ.2.1 75 ((s * 61 + n1) * 61 + n2) = 0 ∧ σ.2.1 76 ((s * 61 + n1) * 61 + n2) = -1) (p7 : y_Fr (σ.1 47) n3 n1 n2 (fun _ => False) (σ.2.1 72) (y_W1 (σ.1 3) (σ.2.1 71) (σ.2.1 75)) (y_W2 (σ.1 3) (σ.2.1 71) (σ.2.1 75)) (σ.2.1 78) (σ.2.1 77) (σ.2.1 83) (σ.2.2 5) (σ.2.2 6)) (p8 : y_St (σ.1 3) (σ.1 45) n1 (n2 - 1) (σ.2.1 71) (y_W1 (σ.1 3) (σ.2.1 71) (σ.2.1 75)) (y_W2 (σ.1 3) (σ.2.1 71) (σ.2.1 75)) (σ.2.2 3) (σ.2.2 4)) : W_X13_countStretch n1 n2 n3 σ (fun (τ : S0) => (m_T τ) ∧ (y_CS σ (τ.2.1 75) (τ.2.1 76) n1 n2 n3) ∧ (y_Fr (σ.1 47) n3 n1 n2 (fun _ => True) (σ.2.1 72) (y_W1 (σ.1 3) (σ.2.1 71) (τ.2.1 75)) (y_W2 (σ.1 3) (σ.2.1 71) (τ.2.1 75)) (σ.2.1 78) (σ.2.1 77) (σ.2.1 83) (τ.2.2 5) (τ.2.2 6)) ∧ (y_St (σ.1 3) (σ.1 45) n1 (n2) (σ.2.1 71) (y_W1 (σ.1 3) (σ.2.1 71) (τ.2.1 75)) (y_W2 (σ.1 3) (σ.2.1 71) (τ.2.1 75)) (τ.2.2 3) (τ.2.2 4))) := by
  have A71 : ∀ j, (-1) ≤ σ.2.1 71 j ∧ σ.2.1 71 j ≤ 99 := fun j => hT.2 71 j
  have A72 : ∀ j, 0 ≤ σ.2.1 72 j ∧ σ.2.1 72 j ≤ 999 := fun j => hT.2 72 j
  have A73 : ∀ j, (-1) ≤ σ.2.1 73 j ∧ σ.2.1 73 j ≤ 99 := fun j => hT.2 73 j
  have A75 : ∀ j, 0 ≤ σ.2.1 75 j ∧ σ.2.1 75 j ≤ 3 := fun j => hT.2 75 j
  have A76 : ∀ j, (-1) ≤ σ.2.1 76 j ∧ σ.2.1 76 j ≤ 1499 := fun j => hT.2 76 j
  have A77 : ∀ j, (-1001) ≤ σ.2.1 77 j ∧ σ.2.1 77 j ≤ 999 := fun j => hT.2 77 j
  have A78 : ∀ j, (-1) ≤ σ.2.1 78 j ∧ σ.2.1 78 j ≤ 30001 := fun j => hT.2 78 j
  have A81 : ∀ j, 0 ≤ σ.2.1 81 j ∧ σ.2.1 81 j ≤ 1500 := fun j => hT.2 81 j
  have A82 : ∀ j, 0 ≤ σ.2.1 82 j ∧ σ.2.1 82 j ≤ 1500 := fun j => hT.2 82 j
  have A83 : ∀ j, 0 ≤ σ.2.1 83 j ∧ σ.2.1 83 j ≤ 1500 := fun j => hT.2 83 j
  have A84 : ∀ j, 0 ≤ σ.2.1 84 j ∧ σ.2.1 84 j ≤ 1499 := fun j => hT.2 84 j
  have A14 : ∀ j, 0 ≤ σ.2.1 14 j ∧ σ.2.1 14 j ≤ 30000 := fun j => hT.2 14 j
  have A16 : ∀ j, 0 ≤ σ.2.1 16 j ∧ σ.2.1 16 j ≤ 999 := fun j => hT.2 16 j
  have A10 : ∀ j, (-1) ≤ σ.2.1 10 j ∧ σ.2.1 10 j ≤ 999 := fun j => hT.2 10 j
  have v3 : 0 ≤ σ.1 3 ∧ σ.1 3 ≤ 1000 := hT.1 3
  have v5 : 0 ≤ σ.1 5 ∧ σ.1 5 ≤ 1500 := hT.1 5
  have v45 : 0 ≤ σ.1 45 ∧ σ.1 45 ≤ 59 := hT.1 45
  have v46 : 0 ≤ σ.1 46 ∧ σ.1 46 ≤ 100 := hT.1 46
  have v47 : 0 ≤ σ.1 47 ∧ σ.1 47 ≤ 30001 := hT.1 47
  have v48 : 0 ≤ σ.1 48 ∧ σ.1 48 ≤ 1500 := hT.1 48
  have W3 : σ.1 3 = σ.1 3 := rfl
  have W5 : σ.1 5 = σ.1 5 := rfl
  have W45 : σ.1 45 = σ.1 45 := rfl
  have W46 : σ.1 46 = σ.1 46 := rfl
  have W47 : σ.1 47 = σ.1 47 := rfl
  have W48 : σ.1 48 = σ.1 48 := rfl
  have G71 : σ.2.1 71 = σ.2.1 71 := rfl
  have G72 : σ.2.1 72 = σ.2.1 72 := rfl
  have G73 : σ.2.1 73 = σ.2.1 73 := rfl
  have G77 : σ.2.1 77 = σ.2.1 77 := rfl
  have G78 : σ.2.1 78 = σ.2.1 78 := rfl
  have G81 : σ.2.1 81 = σ.2.1 81 := rfl
  have G82 : σ.2.1 82 = σ.2.1 82 := rfl
  have G83 : σ.2.1 83 = σ.2.1 83 := rfl
  have G84 : σ.2.1 84 = σ.2.1 84 := rfl
  have G14 : σ.2.1 14 = σ.2.1 14 := rfl
  have G16 : σ.2.1 16 = σ.2.1 16 := rfl
  have G10 : σ.2.1 10 = σ.2.1 10 := rfl
  intro P41 P137 P210 P246 P283 P328 P367 P378 h41 h137 h210 h246 h283 h328 h367 h378
  obtain ⟨qd1, qd2, qd3, qd4, qd5⟩ := p5
  obtain ⟨⟨qT, qK⟩, qN, qF⟩ := qd1
  have inj := qd3.2
  have soS := y_soS qd3
  have v21 := y_W21 (σ.1 3) (σ.2.1 71) (σ.2.1 75)
  have nR : ∀ r : Int, y_RN σ r → 1 ≤ y_nn σ r := fun r h => by (have w := h.1.1.1.2.1; show 1 ≤ σ.2.1 15 r - 1; omega)
  have nuR : ∀ r : Int, y_RN σ r → ¬ (y_nn σ r = 1 ∧ y_f σ r 1 < 0) := fun r h => h.2
  have tyR : ∀ r : Int, 0 ≤ r → r < σ.1 5 → y_RN σ r → ∀ k : Int, 1 ≤ k → k ≤ y_nn σ r → y_f σ r k < 0 → 0 ≤ -2 - y_f σ r k ∧ -2 - y_f σ r k < σ.1 3 := fun r a b h => (qd4 r a b h.1).2
  have l5 : n3 ≤ 1500 := by omega
  have hlf := qd5 n1 p1 (by omega)
  have hTσ := hT
  have wr : ∀ t p q : Int, (y_W1 (σ.1 3) (σ.2.1 71) (σ.2.1 75)) t p q → 0 ≤ t ∧ t < σ.1 3 ∧ 0 ≤ σ.2.1 71 t := fun t p q h => h.1
  have n21 : ∀ x t : Int, (y_N2 n3 (y_hd σ) (y_nn σ) (y_f σ) (σ.2.1 72) (y_W1 (σ.1 3) (σ.2.1 71) (σ.2.1 75)) (y_W2 (σ.1 3) (σ.2.1 71) (σ.2.1 75)) n1 n2 (σ.2.1 81) (σ.2.1 82)) x t → (y_N1 n3 (y_hd σ) (y_nn σ) (y_f σ) (σ.2.1 72) (y_W1 (σ.1 3) (σ.2.1 71) (σ.2.1 75)) n1 n2 (σ.2.1 81)) x t := fun x t h => h.1
  have l_378 : ∀ (m_378 : Nat) (u4_378 : Int) (τ_378 : S0), 30002 - u4_378 < (m_378 : Int) → (m_T τ_378) → (τ_378.1 3 = σ.1 3) → (τ_378.1 5 = σ.1 5) → (τ_378.1 45 = σ.1 45) → (τ_378.1 46 = σ.1 46) → (τ_378.1 47 = σ.1 47) → (τ_378.1 48 = σ.1 48) → (τ_378.2.1 71 = σ.2.1 71) → (τ_378.2.1 72 = σ.2.1 72) → (τ_378.2.1 73 = σ.2.1 73) → (τ_378.2.1 77 = σ.2.1 77) → (τ_378.2.1 78 = σ.2.1 78) → (τ_378.2.1 81 = σ.2.1 81) → (τ_378.2.1 82 = σ.2.1 82) → (τ_378.2.1 83 = σ.2.1 83) → (τ_378.2.1 84 = σ.2.1 84) → (τ_378.2.1 14 = σ.2.1 14) → (τ_378.2.1 16 = σ.2.1 16) → (τ_378.2.1 10 = σ.2.1 10) → (1 ≤ u4_378 ∧ u4_378 ≤ (σ.1 47)) → (y_CS σ (τ_378.2.1 75) (τ_378.2.1 76) n1 n2 n3) → (y_Fr (σ.1 47) n3 n1 n2 (fun z => ¬ y_FV (σ.2.1 78) (σ.2.1 77) z ∨ z < u4_378) (σ.2.1 72) (y_W1 (σ.1 3) (σ.2.1 71) (τ_378.2.1 75)) (y_W2 (σ.1 3) (σ.2.1 71) (τ_378.2.1 75)) (σ.2.1 78) (σ.2.1 77) (σ.2.1 83) (τ_378.2.2 5) (τ_378.2.2 6)) → (y_St (σ.1 3) (σ.1 45) n1 (n2) (σ.2.1 71) (y_W1 (σ.1 3) (σ.2.1 71) (τ_378.2.1 75)) (y_W2 (σ.1 3) (σ.2.1 71) (τ_378.2.1 75)) (τ_378.2.2 3) (τ_378.2.2 4)) → P378 n2 n3 u4_378 τ_378 := by
    intro m_378
    induction m_378 with
    | zero =>
      intro u4_378 τ_378 hm hT W3 W5 W45 W46 W47 W48 G71 G72 G73 G77 G78 G81 G82 G83 G84 G14 G16 G10 i378_1 i378_2 i378_3 i378_4
      have A71 : ∀ j, (-1) ≤ τ_378.2.1 71 j ∧ τ_378.2.1 71 j ≤ 99 := fun j => hT.2 71 j
      have A72 : ∀ j, 0 ≤ τ_378.2.1 72 j ∧ τ_378.2.1 72 j ≤ 999 := fun j => hT.2 72 j
      have A73 : ∀ j, (-1) ≤ τ_378.2.1 73 j ∧ τ_378.2.1 73 j ≤ 99 := fun j => hT.2 73 j
      have A75 : ∀ j, 0 ≤ τ_378.2.1 75 j ∧ τ_378.2.1 75 j ≤ 3 := fun j => hT.2 75 j
      have A76 : ∀ j, (-1) ≤ τ_378.2.1 76 j ∧ τ_378.2.1 76 j ≤ 1499 := fun j => hT.2 76 j
      have A77 : ∀ j, (-1001) ≤ τ_378.2.1 77 j ∧ τ_378.2.1 77 j ≤ 999 := fun j => hT.2 77 j
      have A78 : ∀ j, (-1) ≤ τ_378.2.1 78 j ∧ τ_378.2.1 78 j ≤ 30001 := fun j => hT.2 78 j
      have A81 : ∀ j, 0 ≤ τ_378.2.1 81 j ∧ τ_378.2.1 81 j ≤ 1500 := fun j => hT.2 81 j
      have A82 : ∀ j, 0 ≤ τ_378.2.1 82 j ∧ τ_378.2.1 82 j ≤ 1500 := fun j => hT.2 82 j
      have A83 : ∀ j, 0 ≤ τ_378.2.1 83 j ∧ τ_378.2.1 83 j ≤ 1500 := fun j => hT.2 83 j
      have A84 : ∀ j, 0 ≤ τ_378.2.1 84 j ∧ τ_378.2.1 84 j ≤ 1499 := fun j => hT.2 84 j
      have A14 : ∀ j, 0 ≤ τ_378.2.1 14 j ∧ τ_378.2.1 14 j ≤ 30000 := fun j => hT.2 14 j
      have A16 : ∀ j, 0 ≤ τ_378.2.1 16 j ∧ τ_378.2.1 16 j ≤ 999 := fun j => hT.2 16 j
      have A10 : ∀ j, (-1) ≤ τ_378.2.1 10 j ∧ τ_378.2.1 10 j ≤ 999 := fun j => hT.2 10 j
      have v3 : 0 ≤ τ_378.1 3 ∧ τ_378.1 3 ≤ 1000 := hT.1 3
      have v5 : 0 ≤ τ_378.1 5 ∧ τ_378.1 5 ≤ 1500 := hT.1 5
      have v45 : 0 ≤ τ_378.1 45 ∧ τ_378.1 45 ≤ 59 := hT.1 45
      have v46 : 0 ≤ τ_378.1 46 ∧ τ_378.1 46 ≤ 100 := hT.1 46
      have v47 : 0 ≤ τ_378.1 47 ∧ τ_378.1 47 ≤ 30001 := hT.1 47
      have v48 : 0 ≤ τ_378.1 48 ∧ τ_378.1 48 ≤ 1500 := hT.1 48
      exfalso; (first | omega | (simp only [st_s] <;> omega) | assumption | omega | fail)
    | succ m_378 ih_378 =>
      intro u4_378 τ_378 hm_378 hT W3 W5 W45 W46 W47 W48 G71 G72 G73 G77 G78 G81 G82 G83 G84 G14 G16 G10 i378_1 i378_2 i378_3 i378_4
      have A71 : ∀ j, (-1) ≤ τ_378.2.1 71 j ∧ τ_378.2.1 71 j ≤ 99 := fun j => hT.2 71 j
      have A72 : ∀ j, 0 ≤ τ_378.2.1 72 j ∧ τ_378.2.1 72 j ≤ 999 := fun j => hT.2 72 j
      have A73 : ∀ j, (-1) ≤ τ_378.2.1 73 j ∧ τ_378.2.1 73 j ≤ 99 := fun j => hT.2 73 j
      have A75 : ∀ j, 0 ≤ τ_378.2.1 75 j ∧ τ_378.2.1 75 j ≤ 3 := fun j => hT.2 75 j
      have A76 : ∀ j, (-1) ≤ τ_378.2.1 76 j ∧ τ_378.2.1 76 j ≤ 1499 := fun j => hT.2 76 j
      have A77 : ∀ j, (-1001) ≤ τ_378.2.1 77 j ∧ τ_378.2.1 77 j ≤ 999 := fun j => hT.2 77 j
      have A78 : ∀ j, (-1) ≤ τ_378.2.1 78 j ∧ τ_378.2.1 78 j ≤ 30001 := fun j => hT.2 78 j
      have A81 : ∀ j, 0 ≤ τ_378.2.1 81 j ∧ τ_378.2.1 81 j ≤ 1500 := fun j => hT.2 81 j
      have A82 : ∀ j, 0 ≤ τ_378.2.1 82 j ∧ τ_378.2.1 82 j ≤ 1500 := fun j => hT.2 82 j
      have A83 : ∀ j, 0 ≤ τ_378.2.1 83 j ∧ τ_378.2.1 83 j ≤ 1500 := fun j => hT.2 83 j
      have A84 : ∀ j, 0 ≤ τ_378.2.1 84 j ∧ τ_378.2.1 84 j ≤ 1499 := fun j => hT.2 84 j
      have A14 : ∀ j, 0 ≤ τ_378.2.1 14 j ∧ τ_378.2.1 14 j ≤ 30000 := fun j => hT.2 14 j
      have A16 : ∀ j, 0 ≤ τ_378.2.1 16 j ∧ τ_378.2.1 16 j ≤ 999 := fun j => hT.2 16 j
      have A10 : ∀ j, (-1) ≤ τ_378.2.1 10 j ∧ τ_378.2.1 10 j ≤ 999 := fun j => hT.2 10 j
      have v3 : 0 ≤ τ_378.1 3 ∧ τ_378.1 3 ≤ 1000 := hT.1 3
      have v5 : 0 ≤ τ_378.1 5 ∧ τ_378.1 5 ≤ 1500 := hT.1 5
      have v45 : 0 ≤ τ_378.1 45 ∧ τ_378.1 45 ≤ 59 := hT.1 45
      have v46 : 0 ≤ τ_378.1 46 ∧ τ_378.1 46 ≤ 100 := hT.1 46
      have v47 : 0 ≤ τ_378.1 47 ∧ τ_378.1 47 ≤ 30001 := hT.1 47
      have v48 : 0 ≤ τ_378.1 48 ∧ τ_378.1 48 ≤ 1500 := hT.1 48
      have ux := qT.1 u4_378 i378_1.1
      have v2n := y_W21 (σ.1 3) (σ.2.1 71) (τ_378.2.1 75)
      have wrn : ∀ t p q : Int, y_W1 (σ.1 3) (σ.2.1 71) (τ_378.2.1 75) t p q → 0 ≤ t ∧ t < σ.1 3 ∧ 0 ≤ σ.2.1 71 t := fun t p q h => h.1
      refine h378 n2 n3 u4_378 τ_378 ?_
      refine ⟨fun c72 => ?_, fun c72 => ?_⟩
      ·
        exact ⟨hT, (show y_CS σ (τ_378.2.1 75) (τ_378.2.1 76) n1 n2 n3 from by exact i378_2), (show y_Fr (σ.1 47) n3 n1 n2 (fun _ => True) (σ.2.1 72) (y_W1 (σ.1 3) (σ.2.1 71) (τ_378.2.1 75)) (y_W2 (σ.1 3) (σ.2.1 71) (τ_378.2.1 75)) (σ.2.1 78) (σ.2.1 77) (σ.2.1 83) (τ_378.2.2 5) (τ_378.2.2 6) from by exact y_Fr_d i378_3 (fun x a b c d => ⟨fun _ => trivial, fun _ => Or.inr (by omega)⟩) p2), (show y_St (σ.1 3) (σ.1 45) n1 (n2) (σ.2.1 71) (y_W1 (σ.1 3) (σ.2.1 71) (τ_378.2.1 75)) (y_W2 (σ.1 3) (σ.2.1 71) (τ_378.2.1 75)) (τ_378.2.2 3) (τ_378.2.2 4) from by exact i378_4)⟩
      ·
        refine ⟨(show 0 ≤ u4_378 ∧ u4_378 < 30002 from by (first | omega | (simp only [st_s] <;> omega) | assumption | omega | fail)), ?_⟩
        intro x74 r_x74 e_x74
        have b_x74 : 0 ≤ x74 ∧ x74 ≤ 1500 := by rw [e_x74]; exact hT.2 83 _
        rw [G83] at e_x74
        refine ⟨fun c75 => ?_, fun c75 => ?_⟩
        ·
          refine ⟨(⟨by (first | omega | (simp only [st_s] <;> omega) | assumption | omega | fail), by (first | omega | (simp only [st_s] <;> omega) | assumption | omega | fail)⟩ : rg (u4_378 + 1)), ?_⟩
          exact ih_378 _ _ (show (30002 - (u4_378 + 1) : Int) < ((m_378 : Nat) : Int) from by ((first | omega | (simp only [st_s] <;> omega) | assumption | omega | fail))) hT (show τ_378.1 3 = σ.1 3 from by first | exact W3 | omega) (show τ_378.1 5 = σ.1 5 from by first | exact W5 | omega) (show τ_378.1 45 = σ.1 45 from by first | exact W45 | omega) (show τ_378.1 46 = σ.1 46 from by first | exact W46 | omega) (show τ_378.1 47 = σ.1 47 from by first | exact W47 | omega) (show τ_378.1 48 = σ.1 48 from by first | exact W48 | omega) G71 G72 G73 G77 G78 G81 G82 G83 G84 G14 G16 G10 (show 1 ≤ (u4_378 + 1) ∧ (u4_378 + 1) ≤ (σ.1 47) from by (first | omega | (simp only [st_s] <;> omega) | assumption | omega | fail)) (show y_CS σ (τ_378.2.1 75) (τ_378.2.1 76) n1 n2 n3 from by (first | exact i283_2 | exact i378_2 | (rw [g75_τ89, g76_τ89]; exact i378_2) | fail)) (show y_Fr (σ.1 47) n3 n1 n2 (fun z => ¬ y_FV (σ.2.1 78) (σ.2.1 77) z ∨ z < (u4_378 + 1)) (σ.2.1 72) (y_W1 (σ.1 3) (σ.2.1 71) (τ_378.2.1 75)) (y_W2 (σ.1 3) (σ.2.1 71) (τ_378.2.1 75)) (σ.2.1 78) (σ.2.1 77) (σ.2.1 83) (τ_378.2.2 5) (τ_378.2.2 6) from by (first | exact y_Fr_d (y_Fr_w v21 (y_W21 _ _ _) i283_3 (fun t p q a b c d => CW t p q (by omega) (by omega) (by omega) (by omega) d) (fun x a b c => c)) (fun x a b c d => ⟨fun z => Or.inl z, fun z => z.elim id (fun w => by omega)⟩) p2 | exact y_Fr_d i378_3 (fun x a b c d => y_D3 (fun z => by rw [z] at c d; exfalso; omega)) p2 | exact y_Fr_d i378_3 (fun x a b c d => y_D3 (fun z => by rw [z]; exact fun y => absurd (q82_2.mpr y) (by omega))) p2 | (rw [g75_τ89]; exact y_Fr_d fs (fun x a b c d => y_D4) p2) | fail)) (show y_St (σ.1 3) (σ.1 45) n1 (n2) (σ.2.1 71) (y_W1 (σ.1 3) (σ.2.1 71) (τ_378.2.1 75)) (y_W2 (σ.1 3) (σ.2.1 71) (τ_378.2.1 75)) (τ_378.2.2 3) (τ_378.2.2 4) from by (first | exact i378_4 | (rw [g75_τ89, hf_τ89.2.2 3 (by decide), hf_τ89.2.2 4 (by decide)]; exact i378_4) | exact y_St_n p8 soS inj p1 p2 p3 (by omega) (fun s a b p q c d e f g => (i283_2.1 s a b p q c d e f g).1) (fun s a b => i283_4 s a (by omega)) (fun s q a b c d e => i283_5 (61 * s + q) (fun r x y => by omega)) | fail))
        ·
          refine ⟨_, K_X13_isSortNode hT (show 0 ≤ u4_378 from by (first | omega | (simp only [st_s] <;> omega) | assumption | omega | fail)) (show u4_378 < 30002 from by (first | omega | (simp only [st_s] <;> omega) | assumption | omega | fail)), ?_⟩
          intro x78 r_x78 hq
          obtain ⟨q77_1, q77_2⟩ := hq
          replace q77_1 : 0 ≤ x78 ∧ x78 ≤ 1 := q77_1
          replace q77_2 : ¬ x78 = 0 ↔ τ_378.2.1 78 u4_378 = 0 := q77_2
          rw [G78] at q77_2
          refine ⟨fun c80 => ?_, fun c80 => ?_⟩
          ·
            refine ⟨(⟨by (first | omega | (simp only [st_s] <;> omega) | assumption | omega | fail), by (first | omega | (simp only [st_s] <;> omega) | assumption | omega | fail)⟩ : rg (u4_378 + 1)), ?_⟩
            exact ih_378 _ _ (show (30002 - (u4_378 + 1) : Int) < ((m_378 : Nat) : Int) from by ((first | omega | (simp only [st_s] <;> omega) | assumption | omega | fail))) hT (show τ_378.1 3 = σ.1 3 from by first | exact W3 | omega) (show τ_378.1 5 = σ.1 5 from by first | exact W5 | omega) (show τ_378.1 45 = σ.1 45 from by first | exact W45 | omega) (show τ_378.1 46 = σ.1 46 from by first | exact W46 | omega) (show τ_378.1 47 = σ.1 47 from by first | exact W47 | omega) (show τ_378.1 48 = σ.1 48 from by first | exact W48 | omega) G71 G72 G73 G77 G78 G81 G82 G83 G84 G14 G16 G10 (show 1 ≤ (u4_378 + 1) ∧ (u4_378 + 1) ≤ (σ.1 47) from by (first | omega | (simp only [st_s] <;> omega) | assumption | omega | fail)) (show y_CS σ (τ_378.2.1 75) (τ_378.2.1 76) n1 n2 n3 from by (first | exact i283_2 | exact i378_2 | (rw [g75_τ89, g76_τ89]; exact i378_2) | fail)) (show y_Fr (σ.1 47) n3 n1 n2 (fun z => ¬ y_FV (σ.2.1 78) (σ.2.1 77) z ∨ z < (u4_378 + 1)) (σ.2.1 72) (y_W1 (σ.1 3) (σ.2.1 71) (τ_378.2.1 75)) (y_W2 (σ.1 3) (σ.2.1 71) (τ_378.2.1 75)) (σ.2.1 78) (σ.2.1 77) (σ.2.1 83) (τ_378.2.2 5) (τ_378.2.2 6) from by (first | exact y_Fr_d (y_Fr_w v21 (y_W21 _ _ _) i283_3 (fun t p q a b c d => CW t p q (by omega) (by omega) (by omega) (by omega) d) (fun x a b c => c)) (fun x a b c d => ⟨fun z => Or.inl z, fun z => z.elim id (fun w => by omega)⟩) p2 | exact y_Fr_d i378_3 (fun x a b c d => y_D3 (fun z => by rw [z] at c d; exfalso; omega)) p2 | exact y_Fr_d i378_3 (fun x a b c d => y_D3 (fun z => by rw [z]; exact fun y => absurd (q82_2.mpr y) (by omega))) p2 | (rw [g75_τ89]; exact y_Fr_d fs (fun x a b c d => y_D4) p2) | fail)) (show y_St (σ.1 3) (σ.1 45) n1 (n2) (σ.2.1 71) (y_W1 (σ.1 3) (σ.2.1 71) (τ_378.2.1 75)) (y_W2 (σ.1 3) (σ.2.1 71) (τ_378.2.1 75)) (τ_378.2.2 3) (τ_378.2.2 4) from by (first | exact i378_4 | (rw [g75_τ89, hf_τ89.2.2 3 (by decide), hf_τ89.2.2 4 (by decide)]; exact i378_4) | exact y_St_n p8 soS inj p1 p2 p3 (by omega) (fun s a b p q c d e f g => (i283_2.1 s a b p q c d e f g).1) (fun s a b => i283_4 s a (by omega)) (fun s q a b c d e => i283_5 (61 * s + q) (fun r x y => by omega)) | fail))
          ·
            refine ⟨_, K_X13_isFirstVariable hT (show 0 ≤ u4_378 from by (first | omega | (simp only [st_s] <;> omega) | assumption | omega | fail)) (show u4_378 < 30002 from by (first | omega | (simp only [st_s] <;> omega) | assumption | omega | fail)) (show 1 ≤ τ_378.2.1 78 u4_378 from by (rw [G78]; have w := ux (by omega); omega)), ?_⟩
            intro x83 r_x83 hq
            obtain ⟨q82_1, q82_2⟩ := hq
            replace q82_1 : 0 ≤ x83 ∧ x83 ≤ 1 := q82_1
            replace q82_2 : ¬ x83 = 0 ↔ y_FV (τ_378.2.1 78) (τ_378.2.1 77) u4_378 := q82_2
            rw [G77, G78] at q82_2
            refine ⟨fun c85 => ?_, fun c85 => ?_⟩
            ·
              refine ⟨(⟨by (first | omega | (simp only [st_s] <;> omega) | assumption | omega | fail), by (first | omega | (simp only [st_s] <;> omega) | assumption | omega | fail)⟩ : rg (u4_378 + 1)), ?_⟩
              exact ih_378 _ _ (show (30002 - (u4_378 + 1) : Int) < ((m_378 : Nat) : Int) from by ((first | omega | (simp only [st_s] <;> omega) | assumption | omega | fail))) hT (show τ_378.1 3 = σ.1 3 from by first | exact W3 | omega) (show τ_378.1 5 = σ.1 5 from by first | exact W5 | omega) (show τ_378.1 45 = σ.1 45 from by first | exact W45 | omega) (show τ_378.1 46 = σ.1 46 from by first | exact W46 | omega) (show τ_378.1 47 = σ.1 47 from by first | exact W47 | omega) (show τ_378.1 48 = σ.1 48 from by first | exact W48 | omega) G71 G72 G73 G77 G78 G81 G82 G83 G84 G14 G16 G10 (show 1 ≤ (u4_378 + 1) ∧ (u4_378 + 1) ≤ (σ.1 47) from by (first | omega | (simp only [st_s] <;> omega) | assumption | omega | fail)) (show y_CS σ (τ_378.2.1 75) (τ_378.2.1 76) n1 n2 n3 from by (first | exact i283_2 | exact i378_2 | (rw [g75_τ89, g76_τ89]; exact i378_2) | fail)) (show y_Fr (σ.1 47) n3 n1 n2 (fun z => ¬ y_FV (σ.2.1 78) (σ.2.1 77) z ∨ z < (u4_378 + 1)) (σ.2.1 72) (y_W1 (σ.1 3) (σ.2.1 71) (τ_378.2.1 75)) (y_W2 (σ.1 3) (σ.2.1 71) (τ_378.2.1 75)) (σ.2.1 78) (σ.2.1 77) (σ.2.1 83) (τ_378.2.2 5) (τ_378.2.2 6) from by (first | exact y_Fr_d (y_Fr_w v21 (y_W21 _ _ _) i283_3 (fun t p q a b c d => CW t p q (by omega) (by omega) (by omega) (by omega) d) (fun x a b c => c)) (fun x a b c d => ⟨fun z => Or.inl z, fun z => z.elim id (fun w => by omega)⟩) p2 | exact y_Fr_d i378_3 (fun x a b c d => y_D3 (fun z => by rw [z] at c d; exfalso; omega)) p2 | exact y_Fr_d i378_3 (fun x a b c d => y_D3 (fun z => by rw [z]; exact fun y => absurd (q82_2.mpr y) (by omega))) p2 | (rw [g75_τ89]; exact y_Fr_d fs (fun x a b c d => y_D4) p2) | fail)) (show y_St (σ.1 3) (σ.1 45) n1 (n2) (σ.2.1 71) (y_W1 (σ.1 3) (σ.2.1 71) (τ_378.2.1 75)) (y_W2 (σ.1 3) (σ.2.1 71) (τ_378.2.1 75)) (τ_378.2.2 3) (τ_378.2.2 4) from by (first | exact i378_4 | (rw [g75_τ89, hf_τ89.2.2 3 (by decide), hf_τ89.2.2 4 (by decide)]; exact i378_4) | exact y_St_n p8 soS inj p1 p2 p3 (by omega) (fun s a b p q c d e f g => (i283_2.1 s a b p q c d e f g).1) (fun s a b => i283_4 s a (by omega)) (fun s q a b c d e => i283_5 (61 * s + q) (fun r x y => by omega)) | fail))
            ·
              have H71 := G71
              have H72 := G72
              have H77 := G77
              have H78 := G78
              have fv := q82_2.mp (by assumption)
              have ux2 := ux (by omega)
              have ul := (qT.2.2.1 u4_378 i378_1.1 (by omega)).2.2 (by omega)
              refine ⟨_, K_X13_goTo hT (show 1 ≤ u4_378 from by (first | omega | (simp only [st_s] <;> omega) | assumption | omega | fail)) (show u4_378 < 30002 from by (first | omega | (simp only [st_s] <;> omega) | assumption | omega | fail)) (show 0 ≤ τ_378.2.1 78 u4_378 from by (rw [G78]; have w := ux (by omega); omega)) (show τ_378.2.1 77 u4_378 < 0 → τ_378.2.1 77 u4_378 ≤ -2 from by (rw [G77]; intro z; have w := y_sp qT tyR i378_1.1 (by omega) (by have v := ux (by omega); omega) z; omega)) (show 1 ≤ n2 ∧ n2 ≤ 59 from by (first | omega | (simp only [st_s] <;> omega) | assumption | omega | fail)) (show ∀ q : Int, 0 ≤ q → q < 64 → j_b (τ_378.2.2 6 (τ_378.2.1 78 u4_378)) q → j_b (τ_378.2.2 5 (τ_378.2.1 78 u4_378)) q from by (rw [G78]; exact y_BA qT v2n i378_3 i378_1.1 (by omega) (by omega) (by have v := ux (by omega); omega))) (show τ_378.2.1 77 u4_378 < 0 → 0 ≤ (τ_378.2.1 71 (-2 - τ_378.2.1 77 u4_378)) → ∀ q : Int, 0 ≤ q → q < 64 → j_b (τ_378.2.2 4 (61 * (τ_378.2.1 71 (-2 - τ_378.2.1 77 u4_378)) + n2)) q → j_b (τ_378.2.2 3 (61 * (τ_378.2.1 71 (-2 - τ_378.2.1 77 u4_378)) + n2)) q from by (rw [G77, G71]; intro a b; have w := y_sp qT tyR i378_1.1 (by omega) (by have v := ux (by omega); omega) a; exact y_S21 i378_4 v2n w.1 w.2 b (by omega) p3)), ?_⟩
              intro τ89 hn_τ89 hf_τ89 hq
              obtain ⟨hT, q87_1⟩ := hq
              replace q87_1 : y_gt u4_378 n2 (y_g1 n2 (τ_378.2.1 77 u4_378) (τ_378.2.1 71 (-2 - τ_378.2.1 77 u4_378)) (τ_378.2.1 72) (τ_378.2.2 5 (τ_378.2.1 78 u4_378)) (τ_378.2.2 3)) (y_g2 n2 (τ_378.2.1 77 u4_378) (τ_378.2.1 71 (-2 - τ_378.2.1 77 u4_378)) (τ_378.2.1 72) (τ_378.2.2 5 (τ_378.2.1 78 u4_378)) (τ_378.2.2 6 (τ_378.2.1 78 u4_378)) (τ_378.2.2 3) (τ_378.2.2 4)) (τ_378.2.2 5) (τ_378.2.2 6) (τ89.2.2 5) (τ89.2.2 6) := q87_1
              have w3_τ89 : τ89.1 3 = τ_378.1 3 := hf_τ89.1 3 (by decide)
              have w5_τ89 : τ89.1 5 = τ_378.1 5 := hf_τ89.1 5 (by decide)
              have w45_τ89 : τ89.1 45 = τ_378.1 45 := hf_τ89.1 45 (by decide)
              have w46_τ89 : τ89.1 46 = τ_378.1 46 := hf_τ89.1 46 (by decide)
              have w47_τ89 : τ89.1 47 = τ_378.1 47 := hf_τ89.1 47 (by decide)
              have w48_τ89 : τ89.1 48 = τ_378.1 48 := hf_τ89.1 48 (by decide)
              have g71_τ89 : τ89.2.1 71 = τ_378.2.1 71 := hf_τ89.2.1 71 (by decide)
              have g72_τ89 : τ89.2.1 72 = τ_378.2.1 72 := hf_τ89.2.1 72 (by decide)
              have g73_τ89 : τ89.2.1 73 = τ_378.2.1 73 := hf_τ89.2.1 73 (by decide)
              have g75_τ89 : τ89.2.1 75 = τ_378.2.1 75 := hf_τ89.2.1 75 (by decide)
              have g76_τ89 : τ89.2.1 76 = τ_378.2.1 76 := hf_τ89.2.1 76 (by decide)
              have g77_τ89 : τ89.2.1 77 = τ_378.2.1 77 := hf_τ89.2.1 77 (by decide)
              have g78_τ89 : τ89.2.1 78 = τ_378.2.1 78 := hf_τ89.2.1 78 (by decide)
              have g81_τ89 : τ89.2.1 81 = τ_378.2.1 81 := hf_τ89.2.1 81 (by decide)
              have g82_τ89 : τ89.2.1 82 = τ_378.2.1 82 := hf_τ89.2.1 82 (by decide)
              have g83_τ89 : τ89.2.1 83 = τ_378.2.1 83 := hf_τ89.2.1 83 (by decide)
              have g84_τ89 : τ89.2.1 84 = τ_378.2.1 84 := hf_τ89.2.1 84 (by decide)
              have g14_τ89 : τ89.2.1 14 = τ_378.2.1 14 := hf_τ89.2.1 14 (by decide)
              have g16_τ89 : τ89.2.1 16 = τ_378.2.1 16 := hf_τ89.2.1 16 (by decide)
              have g10_τ89 : τ89.2.1 10 = τ_378.2.1 10 := hf_τ89.2.1 10 (by decide)
              have W3 : τ89.1 3 = σ.1 3 := by first | exact w3_τ89.trans W3 | omega
              have W5 : τ89.1 5 = σ.1 5 := by first | exact w5_τ89.trans W5 | omega
              have W45 : τ89.1 45 = σ.1 45 := by first | exact w45_τ89.trans W45 | omega
              have W46 : τ89.1 46 = σ.1 46 := by first | exact w46_τ89.trans W46 | omega
              have W47 : τ89.1 47 = σ.1 47 := by first | exact w47_τ89.trans W47 | omega
              have W48 : τ89.1 48 = σ.1 48 := by first | exact w48_τ89.trans W48 | omega
              have G71 : τ89.2.1 71 = σ.2.1 71 := (g71_τ89).trans G71
              have G72 : τ89.2.1 72 = σ.2.1 72 := (g72_τ89).trans G72
              have G73 : τ89.2.1 73 = σ.2.1 73 := (g73_τ89).trans G73
              have G77 : τ89.2.1 77 = σ.2.1 77 := (g77_τ89).trans G77
              have G78 : τ89.2.1 78 = σ.2.1 78 := (g78_τ89).trans G78
              have G81 : τ89.2.1 81 = σ.2.1 81 := (g81_τ89).trans G81
              have G82 : τ89.2.1 82 = σ.2.1 82 := (g82_τ89).trans G82
              have G83 : τ89.2.1 83 = σ.2.1 83 := (g83_τ89).trans G83
              have G84 : τ89.2.1 84 = σ.2.1 84 := (g84_τ89).trans G84
              have G14 : τ89.2.1 14 = σ.2.1 14 := (g14_τ89).trans G14
              have G16 : τ89.2.1 16 = σ.2.1 16 := (g16_τ89).trans G16
              have G10 : τ89.2.1 10 = σ.2.1 10 := (g10_τ89).trans G10
              have A71 : ∀ j, (-1) ≤ τ89.2.1 71 j ∧ τ89.2.1 71 j ≤ 99 := fun j => hT.2 71 j
              have A72 : ∀ j, 0 ≤ τ89.2.1 72 j ∧ τ89.2.1 72 j ≤ 999 := fun j => hT.2 72 j
              have A73 : ∀ j, (-1) ≤ τ89.2.1 73 j ∧ τ89.2.1 73 j ≤ 99 := fun j => hT.2 73 j
              have A75 : ∀ j, 0 ≤ τ89.2.1 75 j ∧ τ89.2.1 75 j ≤ 3 := fun j => hT.2 75 j
              have A76 : ∀ j, (-1) ≤ τ89.2.1 76 j ∧ τ89.2.1 76 j ≤ 1499 := fun j => hT.2 76 j
              have A77 : ∀ j, (-1001) ≤ τ89.2.1 77 j ∧ τ89.2.1 77 j ≤ 999 := fun j => hT.2 77 j
              have A78 : ∀ j, (-1) ≤ τ89.2.1 78 j ∧ τ89.2.1 78 j ≤ 30001 := fun j => hT.2 78 j
              have A81 : ∀ j, 0 ≤ τ89.2.1 81 j ∧ τ89.2.1 81 j ≤ 1500 := fun j => hT.2 81 j
              have A82 : ∀ j, 0 ≤ τ89.2.1 82 j ∧ τ89.2.1 82 j ≤ 1500 := fun j => hT.2 82 j
              have A83 : ∀ j, 0 ≤ τ89.2.1 83 j ∧ τ89.2.1 83 j ≤ 1500 := fun j => hT.2 83 j
              have A84 : ∀ j, 0 ≤ τ89.2.1 84 j ∧ τ89.2.1 84 j ≤ 1499 := fun j => hT.2 84 j
              have A14 : ∀ j, 0 ≤ τ89.2.1 14 j ∧ τ89.2.1 14 j ≤ 30000 := fun j => hT.2 14 j
              have A16 : ∀ j, 0 ≤ τ89.2.1 16 j ∧ τ89.2.1 16 j ≤ 999 := fun j => hT.2 16 j
              have A10 : ∀ j, (-1) ≤ τ89.2.1 10 j ∧ τ89.2.1 10 j ≤ 999 := fun j => hT.2 10 j
              have v3 : 0 ≤ τ89.1 3 ∧ τ89.1 3 ≤ 1000 := hT.1 3
              have v5 : 0 ≤ τ89.1 5 ∧ τ89.1 5 ≤ 1500 := hT.1 5
              have v45 : 0 ≤ τ89.1 45 ∧ τ89.1 45 ≤ 59 := hT.1 45
              have v46 : 0 ≤ τ89.1 46 ∧ τ89.1 46 ≤ 100 := hT.1 46
              have v47 : 0 ≤ τ89.1 47 ∧ τ89.1 47 ≤ 30001 := hT.1 47
              have v48 : 0 ≤ τ89.1 48 ∧ τ89.1 48 ≤ 1500 := hT.1 48
              rw [H71, H72, H77, H78] at q87_1
              have fs := y_Fr_s (D := fun z => ¬ y_FV (σ.2.1 78) (σ.2.1 77) z ∨ z < u4_378) i378_4 v2n wrn i378_3 p1 p2 p3 (by omega) i378_1.1 (by omega) (by omega) (by omega) (by omega) ul (Or.inr (Int.le_refl _)) (y_sp qT tyR i378_1.1 (by omega) (by omega)) q87_1
              refine ⟨(⟨by (first | omega | (simp only [st_s] <;> omega) | assumption | omega | fail), by (first | omega | (simp only [st_s] <;> omega) | assumption | omega | fail)⟩ : rg (u4_378 + 1)), ?_⟩
              exact ih_378 _ _ (show (30002 - (u4_378 + 1) : Int) < ((m_378 : Nat) : Int) from by ((first | omega | (simp only [st_s] <;> omega) | assumption | omega | fail))) hT (show τ89.1 3 = σ.1 3 from by first | exact W3 | omega) (show τ89.1 5 = σ.1 5 from by first | exact W5 | omega) (show τ89.1 45 = σ.1 45 from by first | exact W45 | omega) (show τ89.1 46 = σ.1 46 from by first | exact W46 | omega) (show τ89.1 47 = σ.1 47 from by first | exact W47 | omega) (show τ89.1 48 = σ.1 48 from by first | exact W48 | omega) G71 G72 G73 G77 G78 G81 G82 G83 G84 G14 G16 G10 (show 1 ≤ (u4_378 + 1) ∧ (u4_378 + 1) ≤ (σ.1 47) from by (first | omega | (simp only [st_s] <;> omega) | assumption | omega | fail)) (show y_CS σ (τ89.2.1 75) (τ89.2.1 76) n1 n2 n3 from by (first | exact i283_2 | exact i378_2 | (rw [g75_τ89, g76_τ89]; exact i378_2) | fail)) (show y_Fr (σ.1 47) n3 n1 n2 (fun z => ¬ y_FV (σ.2.1 78) (σ.2.1 77) z ∨ z < (u4_378 + 1)) (σ.2.1 72) (y_W1 (σ.1 3) (σ.2.1 71) (τ89.2.1 75)) (y_W2 (σ.1 3) (σ.2.1 71) (τ89.2.1 75)) (σ.2.1 78) (σ.2.1 77) (σ.2.1 83) (τ89.2.2 5) (τ89.2.2 6) from by (first | exact y_Fr_d (y_Fr_w v21 (y_W21 _ _ _) i283_3 (fun t p q a b c d => CW t p q (by omega) (by omega) (by omega) (by omega) d) (fun x a b c => c)) (fun x a b c d => ⟨fun z => Or.inl z, fun z => z.elim id (fun w => by omega)⟩) p2 | exact y_Fr_d i378_3 (fun x a b c d => y_D3 (fun z => by rw [z] at c d; exfalso; omega)) p2 | exact y_Fr_d i378_3 (fun x a b c d => y_D3 (fun z => by rw [z]; exact fun y => absurd (q82_2.mpr y) (by omega))) p2 | (rw [g75_τ89]; exact y_Fr_d fs (fun x a b c d => y_D4) p2) | fail)) (show y_St (σ.1 3) (σ.1 45) n1 (n2) (σ.2.1 71) (y_W1 (σ.1 3) (σ.2.1 71) (τ89.2.1 75)) (y_W2 (σ.1 3) (σ.2.1 71) (τ89.2.1 75)) (τ89.2.2 3) (τ89.2.2 4) from by (first | exact i378_4 | (rw [g75_τ89, hf_τ89.2.2 3 (by decide), hf_τ89.2.2 4 (by decide)]; exact i378_4) | exact y_St_n p8 soS inj p1 p2 p3 (by omega) (fun s a b p q c d e f g => (i283_2.1 s a b p q c d e f g).1) (fun s a b => i283_4 s a (by omega)) (fun s q a b c d e => i283_5 (61 * s + q) (fun r x y => by omega)) | fail))
  have l_283 : ∀ (m_283 : Nat) (u4_283 : Int) (τ_283 : S0), 101 - u4_283 < (m_283 : Int) → (m_T τ_283) → (τ_283.1 3 = σ.1 3) → (τ_283.1 5 = σ.1 5) → (τ_283.1 45 = σ.1 45) → (τ_283.1 46 = σ.1 46) → (τ_283.1 47 = σ.1 47) → (τ_283.1 48 = σ.1 48) → (τ_283.2.1 71 = σ.2.1 71) → (τ_283.2.1 72 = σ.2.1 72) → (τ_283.2.1 73 = σ.2.1 73) → (τ_283.2.1 77 = σ.2.1 77) → (τ_283.2.1 78 = σ.2.1 78) → (τ_283.2.1 81 = σ.2.1 81) → (τ_283.2.1 82 = σ.2.1 82) → (τ_283.2.1 83 = σ.2.1 83) → (τ_283.2.1 84 = σ.2.1 84) → (τ_283.2.1 14 = σ.2.1 14) → (τ_283.2.1 16 = σ.2.1 16) → (τ_283.2.1 10 = σ.2.1 10) → (0 ≤ u4_283 ∧ u4_283 ≤ (σ.1 46)) → (y_CS σ (τ_283.2.1 75) (τ_283.2.1 76) n1 n2 n3) → (y_Fr (σ.1 47) n3 n1 n2 (fun z => ¬ y_FV (σ.2.1 78) (σ.2.1 77) z) (σ.2.1 72) (y_W1 (σ.1 3) (σ.2.1 71) (σ.2.1 75)) (y_W2 (σ.1 3) (σ.2.1 71) (σ.2.1 75)) (σ.2.1 78) (σ.2.1 77) (σ.2.1 83) (τ_283.2.2 5) (τ_283.2.2 6)) → (∀ s : Int, 0 ≤ s → s < u4_283 → ∀ q : Int, 0 ≤ q → q < 64 → (j_b (τ_283.2.2 3 (61 * s + n2)) q ↔ j_b (σ.2.2 3 (61 * s + n2)) q ∨ (q = n1 ∧ 1 ≤ τ_283.2.1 75 ((s * 61 + n1) * 61 + n2))) ∧ (j_b (τ_283.2.2 4 (61 * s + n2)) q ↔ j_b (σ.2.2 4 (61 * s + n2)) q ∨ (q = n1 ∧ 2 ≤ τ_283.2.1 75 ((s * 61 + n1) * 61 + n2)))) → (∀ e : Int, (∀ s : Int, 0 ≤ s → s < u4_283 → e ≠ 61 * s + n2) → τ_283.2.2 3 e = σ.2.2 3 e ∧ τ_283.2.2 4 e = σ.2.2 4 e) → P283 n1 n2 n3 u4_283 τ_283 := by
    intro m_283
    induction m_283 with
    | zero =>
      intro u4_283 τ_283 hm hT W3 W5 W45 W46 W47 W48 G71 G72 G73 G77 G78 G81 G82 G83 G84 G14 G16 G10 i283_1 i283_2 i283_3 i283_4 i283_5
      have A71 : ∀ j, (-1) ≤ τ_283.2.1 71 j ∧ τ_283.2.1 71 j ≤ 99 := fun j => hT.2 71 j
      have A72 : ∀ j, 0 ≤ τ_283.2.1 72 j ∧ τ_283.2.1 72 j ≤ 999 := fun j => hT.2 72 j
      have A73 : ∀ j, (-1) ≤ τ_283.2.1 73 j ∧ τ_283.2.1 73 j ≤ 99 := fun j => hT.2 73 j
      have A75 : ∀ j, 0 ≤ τ_283.2.1 75 j ∧ τ_283.2.1 75 j ≤ 3 := fun j => hT.2 75 j
      have A76 : ∀ j, (-1) ≤ τ_283.2.1 76 j ∧ τ_283.2.1 76 j ≤ 1499 := fun j => hT.2 76 j
      have A77 : ∀ j, (-1001) ≤ τ_283.2.1 77 j ∧ τ_283.2.1 77 j ≤ 999 := fun j => hT.2 77 j
      have A78 : ∀ j, (-1) ≤ τ_283.2.1 78 j ∧ τ_283.2.1 78 j ≤ 30001 := fun j => hT.2 78 j
      have A81 : ∀ j, 0 ≤ τ_283.2.1 81 j ∧ τ_283.2.1 81 j ≤ 1500 := fun j => hT.2 81 j
      have A82 : ∀ j, 0 ≤ τ_283.2.1 82 j ∧ τ_283.2.1 82 j ≤ 1500 := fun j => hT.2 82 j
      have A83 : ∀ j, 0 ≤ τ_283.2.1 83 j ∧ τ_283.2.1 83 j ≤ 1500 := fun j => hT.2 83 j
      have A84 : ∀ j, 0 ≤ τ_283.2.1 84 j ∧ τ_283.2.1 84 j ≤ 1499 := fun j => hT.2 84 j
      have A14 : ∀ j, 0 ≤ τ_283.2.1 14 j ∧ τ_283.2.1 14 j ≤ 30000 := fun j => hT.2 14 j
      have A16 : ∀ j, 0 ≤ τ_283.2.1 16 j ∧ τ_283.2.1 16 j ≤ 999 := fun j => hT.2 16 j
      have A10 : ∀ j, (-1) ≤ τ_283.2.1 10 j ∧ τ_283.2.1 10 j ≤ 999 := fun j => hT.2 10 j
      have v3 : 0 ≤ τ_283.1 3 ∧ τ_283.1 3 ≤ 1000 := hT.1 3
      have v5 : 0 ≤ τ_283.1 5 ∧ τ_283.1 5 ≤ 1500 := hT.1 5
      have v45 : 0 ≤ τ_283.1 45 ∧ τ_283.1 45 ≤ 59 := hT.1 45
      have v46 : 0 ≤ τ_283.1 46 ∧ τ_283.1 46 ≤ 100 := hT.1 46
      have v47 : 0 ≤ τ_283.1 47 ∧ τ_283.1 47 ≤ 30001 := hT.1 47
      have v48 : 0 ≤ τ_283.1 48 ∧ τ_283.1 48 ≤ 1500 := hT.1 48
      exfalso; (first | omega | (simp only [st_s] <;> omega) | assumption | omega | fail)
    | succ m_283 ih_283 =>
      intro u4_283 τ_283 hm_283 hT W3 W5 W45 W46 W47 W48 G71 G72 G73 G77 G78 G81 G82 G83 G84 G14 G16 G10 i283_1 i283_2 i283_3 i283_4 i283_5
      have A71 : ∀ j, (-1) ≤ τ_283.2.1 71 j ∧ τ_283.2.1 71 j ≤ 99 := fun j => hT.2 71 j
      have A72 : ∀ j, 0 ≤ τ_283.2.1 72 j ∧ τ_283.2.1 72 j ≤ 999 := fun j => hT.2 72 j
      have A73 : ∀ j, (-1) ≤ τ_283.2.1 73 j ∧ τ_283.2.1 73 j ≤ 99 := fun j => hT.2 73 j
      have A75 : ∀ j, 0 ≤ τ_283.2.1 75 j ∧ τ_283.2.1 75 j ≤ 3 := fun j => hT.2 75 j
      have A76 : ∀ j, (-1) ≤ τ_283.2.1 76 j ∧ τ_283.2.1 76 j ≤ 1499 := fun j => hT.2 76 j
      have A77 : ∀ j, (-1001) ≤ τ_283.2.1 77 j ∧ τ_283.2.1 77 j ≤ 999 := fun j => hT.2 77 j
      have A78 : ∀ j, (-1) ≤ τ_283.2.1 78 j ∧ τ_283.2.1 78 j ≤ 30001 := fun j => hT.2 78 j
      have A81 : ∀ j, 0 ≤ τ_283.2.1 81 j ∧ τ_283.2.1 81 j ≤ 1500 := fun j => hT.2 81 j
      have A82 : ∀ j, 0 ≤ τ_283.2.1 82 j ∧ τ_283.2.1 82 j ≤ 1500 := fun j => hT.2 82 j
      have A83 : ∀ j, 0 ≤ τ_283.2.1 83 j ∧ τ_283.2.1 83 j ≤ 1500 := fun j => hT.2 83 j
      have A84 : ∀ j, 0 ≤ τ_283.2.1 84 j ∧ τ_283.2.1 84 j ≤ 1499 := fun j => hT.2 84 j
      have A14 : ∀ j, 0 ≤ τ_283.2.1 14 j ∧ τ_283.2.1 14 j ≤ 30000 := fun j => hT.2 14 j
      have A16 : ∀ j, 0 ≤ τ_283.2.1 16 j ∧ τ_283.2.1 16 j ≤ 999 := fun j => hT.2 16 j
      have A10 : ∀ j, (-1) ≤ τ_283.2.1 10 j ∧ τ_283.2.1 10 j ≤ 999 := fun j => hT.2 10 j
      have v3 : 0 ≤ τ_283.1 3 ∧ τ_283.1 3 ≤ 1000 := hT.1 3
      have v5 : 0 ≤ τ_283.1 5 ∧ τ_283.1 5 ≤ 1500 := hT.1 5
      have v45 : 0 ≤ τ_283.1 45 ∧ τ_283.1 45 ≤ 59 := hT.1 45
      have v46 : 0 ≤ τ_283.1 46 ∧ τ_283.1 46 ≤ 100 := hT.1 46
      have v47 : 0 ≤ τ_283.1 47 ∧ τ_283.1 47 ≤ 30001 := hT.1 47
      have v48 : 0 ≤ τ_283.1 48 ∧ τ_283.1 48 ≤ 1500 := hT.1 48
      have CW := y_CS_w i283_2 soS
      refine h283 n1 n2 n3 u4_283 τ_283 ?_
      refine ⟨fun c45 => ?_, fun c45 => ?_⟩
      ·
        exact l_378 ((30002 - 1 : Int).toNat + 1) _ _ (show (30002 - 1 : Int) < (((30002 - 1 : Int).toNat + 1 : Nat) : Int) from by ((first | omega | (simp only [st_s] <;> omega) | assumption | omega | fail))) hT (show τ_283.1 3 = σ.1 3 from by first | exact W3 | omega) (show τ_283.1 5 = σ.1 5 from by first | exact W5 | omega) (show τ_283.1 45 = σ.1 45 from by first | exact W45 | omega) (show τ_283.1 46 = σ.1 46 from by first | exact W46 | omega) (show τ_283.1 47 = σ.1 47 from by first | exact W47 | omega) (show τ_283.1 48 = σ.1 48 from by first | exact W48 | omega) G71 G72 G73 G77 G78 G81 G82 G83 G84 G14 G16 G10 (show 1 ≤ 1 ∧ 1 ≤ (σ.1 47) from by (first | omega | (simp only [st_s] <;> omega) | assumption | omega | fail)) (show y_CS σ (τ_283.2.1 75) (τ_283.2.1 76) n1 n2 n3 from by (first | exact i283_2 | exact i378_2 | (rw [g75_τ89, g76_τ89]; exact i378_2) | fail)) (show y_Fr (σ.1 47) n3 n1 n2 (fun z => ¬ y_FV (σ.2.1 78) (σ.2.1 77) z ∨ z < 1) (σ.2.1 72) (y_W1 (σ.1 3) (σ.2.1 71) (τ_283.2.1 75)) (y_W2 (σ.1 3) (σ.2.1 71) (τ_283.2.1 75)) (σ.2.1 78) (σ.2.1 77) (σ.2.1 83) (τ_283.2.2 5) (τ_283.2.2 6) from by (first | exact y_Fr_d (y_Fr_w v21 (y_W21 _ _ _) i283_3 (fun t p q a b c d => CW t p q (by omega) (by omega) (by omega) (by omega) d) (fun x a b c => c)) (fun x a b c d => ⟨fun z => Or.inl z, fun z => z.elim id (fun w => by omega)⟩) p2 | exact y_Fr_d i378_3 (fun x a b c d => y_D3 (fun z => by rw [z] at c d; exfalso; omega)) p2 | exact y_Fr_d i378_3 (fun x a b c d => y_D3 (fun z => by rw [z]; exact fun y => absurd (q82_2.mpr y) (by omega))) p2 | (rw [g75_τ89]; exact y_Fr_d fs (fun x a b c d => y_D4) p2) | fail)) (show y_St (σ.1 3) (σ.1 45) n1 (n2) (σ.2.1 71) (y_W1 (σ.1 3) (σ.2.1 71) (τ_283.2.1 75)) (y_W2 (σ.1 3) (σ.2.1 71) (τ_283.2.1 75)) (τ_283.2.2 3) (τ_283.2.2 4) from by (first | exact i378_4 | (rw [g75_τ89, hf_τ89.2.2 3 (by decide), hf_τ89.2.2 4 (by decide)]; exact i378_4) | exact y_St_n p8 soS inj p1 p2 p3 (by omega) (fun s a b p q c d e f g => (i283_2.1 s a b p q c d e f g).1) (fun s a b => i283_4 s a (by omega)) (fun s q a b c d e => i283_5 (61 * s + q) (fun r x y => by omega)) | fail))
      ·
        refine ⟨(show 0 ≤ ((61 * u4_283) + n2) ∧ ((61 * u4_283) + n2) < 6200 from by (first | omega | (simp only [st_s] <;> omega) | assumption | omega | fail)), ?_⟩
        intro x47 e_x47
        refine ⟨_, K_X13_wayAt hT (show 0 ≤ u4_283 ∧ u4_283 ≤ 99 from by (first | omega | (simp only [st_s] <;> omega) | assumption | omega | fail)) (show 0 ≤ n1 ∧ n1 ≤ 60 from by (first | omega | (simp only [st_s] <;> omega) | assumption | omega | fail)) (show 0 ≤ n2 ∧ n2 ≤ 60 from by (first | omega | (simp only [st_s] <;> omega) | assumption | omega | fail)), ?_⟩
        intro x49 r_x49 hq
        obtain ⟨q48_1, q48_2⟩ := hq
        replace q48_1 : x49 = (u4_283 * 61 + n1) * 61 + n2 := q48_1
        replace q48_2 : 0 ≤ x49 ∧ x49 < 372100 := q48_2
        refine ⟨(show 0 ≤ x49 ∧ x49 < 372100 from by (first | omega | (simp only [st_s] <;> omega) | assumption | omega | fail)), ?_⟩
        intro x52 r_x52 e_x52
        have b_x52 : 0 ≤ x52 ∧ x52 ≤ 3 := by rw [e_x52]; exact hT.2 75 _
        rw [q48_1] at e_x52
        refine ⟨fun c53 => ?_, fun c53 => ?_⟩
        ·
          refine h328 _ _ _ _ _ _ _ _ ?_
          refine ⟨(show 0 ≤ ((61 * u4_283) + n2) ∧ ((61 * u4_283) + n2) < 6200 from by (first | omega | (simp only [st_s] <;> omega) | assumption | omega | fail)), ?_⟩
          replace hT := mT_b (k := 3) (j := ((61 * u4_283) + n2)) (x := (x47 ||| 0)) hT
          refine ⟨(show 0 ≤ ((61 * u4_283) + n2) ∧ ((61 * u4_283) + n2) < 6200 from by (first | omega | (simp only [st_s] <;> omega) | assumption | omega | fail)), ?_⟩
          intro x93 e_x93
          refine ⟨_, K_X13_wayAt hT (show 0 ≤ u4_283 ∧ u4_283 ≤ 99 from by (first | omega | (simp only [st_s] <;> omega) | assumption | omega | fail)) (show 0 ≤ n1 ∧ n1 ≤ 60 from by (first | omega | (simp only [st_s] <;> omega) | assumption | omega | fail)) (show 0 ≤ n2 ∧ n2 ≤ 60 from by (first | omega | (simp only [st_s] <;> omega) | assumption | omega | fail)), ?_⟩
          intro x95 r_x95 hq
          obtain ⟨q94_1, q94_2⟩ := hq
          replace q94_1 : x95 = (u4_283 * 61 + n1) * 61 + n2 := q94_1
          replace q94_2 : 0 ≤ x95 ∧ x95 < 372100 := q94_2
          refine ⟨(show 0 ≤ x95 ∧ x95 < 372100 from by (first | omega | (simp only [st_s] <;> omega) | assumption | omega | fail)), ?_⟩
          intro x98 r_x98 e_x98
          have b_x98 : 0 ≤ x98 ∧ x98 ≤ 3 := by rw [e_x98]; exact hT.2 75 _
          rw [q94_1] at e_x98
          refine ⟨fun c99 => ?_, fun c99 => ?_⟩
          ·
            obtain ⟨τ_367, e_τ_367⟩ : ∃ z : S0, z = s_b τ_283 3 ((61 * u4_283) + n2) (x47 ||| 0) := ⟨_, rfl⟩
            rw [← e_τ_367]
            replace hT : m_T τ_367 := by rw [e_τ_367]; exact hT
            have w3_τ_367 : τ_367.1 3 = τ_283.1 3 := by rw [e_τ_367]; rfl
            have w5_τ_367 : τ_367.1 5 = τ_283.1 5 := by rw [e_τ_367]; rfl
            have w45_τ_367 : τ_367.1 45 = τ_283.1 45 := by rw [e_τ_367]; rfl
            have w46_τ_367 : τ_367.1 46 = τ_283.1 46 := by rw [e_τ_367]; rfl
            have w47_τ_367 : τ_367.1 47 = τ_283.1 47 := by rw [e_τ_367]; rfl
            have w48_τ_367 : τ_367.1 48 = τ_283.1 48 := by rw [e_τ_367]; rfl
            have g71_τ_367 : τ_367.2.1 71 = τ_283.2.1 71 := by rw [e_τ_367]; rfl
            have g72_τ_367 : τ_367.2.1 72 = τ_283.2.1 72 := by rw [e_τ_367]; rfl
            have g73_τ_367 : τ_367.2.1 73 = τ_283.2.1 73 := by rw [e_τ_367]; rfl
            have g75_τ_367 : τ_367.2.1 75 = τ_283.2.1 75 := by rw [e_τ_367]; rfl
            have g76_τ_367 : τ_367.2.1 76 = τ_283.2.1 76 := by rw [e_τ_367]; rfl
            have g77_τ_367 : τ_367.2.1 77 = τ_283.2.1 77 := by rw [e_τ_367]; rfl
            have g78_τ_367 : τ_367.2.1 78 = τ_283.2.1 78 := by rw [e_τ_367]; rfl
            have g81_τ_367 : τ_367.2.1 81 = τ_283.2.1 81 := by rw [e_τ_367]; rfl
            have g82_τ_367 : τ_367.2.1 82 = τ_283.2.1 82 := by rw [e_τ_367]; rfl
            have g83_τ_367 : τ_367.2.1 83 = τ_283.2.1 83 := by rw [e_τ_367]; rfl
            have g84_τ_367 : τ_367.2.1 84 = τ_283.2.1 84 := by rw [e_τ_367]; rfl
            have g14_τ_367 : τ_367.2.1 14 = τ_283.2.1 14 := by rw [e_τ_367]; rfl
            have g16_τ_367 : τ_367.2.1 16 = τ_283.2.1 16 := by rw [e_τ_367]; rfl
            have g10_τ_367 : τ_367.2.1 10 = τ_283.2.1 10 := by rw [e_τ_367]; rfl
            have W3 : τ_367.1 3 = σ.1 3 := by first | exact w3_τ_367.trans W3 | omega
            have W5 : τ_367.1 5 = σ.1 5 := by first | exact w5_τ_367.trans W5 | omega
            have W45 : τ_367.1 45 = σ.1 45 := by first | exact w45_τ_367.trans W45 | omega
            have W46 : τ_367.1 46 = σ.1 46 := by first | exact w46_τ_367.trans W46 | omega
            have W47 : τ_367.1 47 = σ.1 47 := by first | exact w47_τ_367.trans W47 | omega
            have W48 : τ_367.1 48 = σ.1 48 := by first | exact w48_τ_367.trans W48 | omega
            have G71 : τ_367.2.1 71 = σ.2.1 71 := (g71_τ_367).trans G71
            have G72 : τ_367.2.1 72 = σ.2.1 72 := (g72_τ_367).trans G72
            have G73 : τ_367.2.1 73 = σ.2.1 73 := (g73_τ_367).trans G73
            have G77 : τ_367.2.1 77 = σ.2.1 77 := (g77_τ_367).trans G77
            have G78 : τ_367.2.1 78 = σ.2.1 78 := (g78_τ_367).trans G78
            have G81 : τ_367.2.1 81 = σ.2.1 81 := (g81_τ_367).trans G81
            have G82 : τ_367.2.1 82 = σ.2.1 82 := (g82_τ_367).trans G82
            have G83 : τ_367.2.1 83 = σ.2.1 83 := (g83_τ_367).trans G83
            have G84 : τ_367.2.1 84 = σ.2.1 84 := (g84_τ_367).trans G84
            have G14 : τ_367.2.1 14 = σ.2.1 14 := (g14_τ_367).trans G14
            have G16 : τ_367.2.1 16 = σ.2.1 16 := (g16_τ_367).trans G16
            have G10 : τ_367.2.1 10 = σ.2.1 10 := (g10_τ_367).trans G10
            have A71 : ∀ j, (-1) ≤ τ_367.2.1 71 j ∧ τ_367.2.1 71 j ≤ 99 := fun j => hT.2 71 j
            have A72 : ∀ j, 0 ≤ τ_367.2.1 72 j ∧ τ_367.2.1 72 j ≤ 999 := fun j => hT.2 72 j
            have A73 : ∀ j, (-1) ≤ τ_367.2.1 73 j ∧ τ_367.2.1 73 j ≤ 99 := fun j => hT.2 73 j
            have A75 : ∀ j, 0 ≤ τ_367.2.1 75 j ∧ τ_367.2.1 75 j ≤ 3 := fun j => hT.2 75 j
            have A76 : ∀ j, (-1) ≤ τ_367.2.1 76 j ∧ τ_367.2.1 76 j ≤ 1499 := fun j => hT.2 76 j
            have A77 : ∀ j, (-1001) ≤ τ_367.2.1 77 j ∧ τ_367.2.1 77 j ≤ 999 := fun j => hT.2 77 j
            have A78 : ∀ j, (-1) ≤ τ_367.2.1 78 j ∧ τ_367.2.1 78 j ≤ 30001 := fun j => hT.2 78 j
            have A81 : ∀ j, 0 ≤ τ_367.2.1 81 j ∧ τ_367.2.1 81 j ≤ 1500 := fun j => hT.2 81 j
            have A82 : ∀ j, 0 ≤ τ_367.2.1 82 j ∧ τ_367.2.1 82 j ≤ 1500 := fun j => hT.2 82 j
            have A83 : ∀ j, 0 ≤ τ_367.2.1 83 j ∧ τ_367.2.1 83 j ≤ 1500 := fun j => hT.2 83 j
            have A84 : ∀ j, 0 ≤ τ_367.2.1 84 j ∧ τ_367.2.1 84 j ≤ 1499 := fun j => hT.2 84 j
            have A14 : ∀ j, 0 ≤ τ_367.2.1 14 j ∧ τ_367.2.1 14 j ≤ 30000 := fun j => hT.2 14 j
            have A16 : ∀ j, 0 ≤ τ_367.2.1 16 j ∧ τ_367.2.1 16 j ≤ 999 := fun j => hT.2 16 j
            have A10 : ∀ j, (-1) ≤ τ_367.2.1 10 j ∧ τ_367.2.1 10 j ≤ 999 := fun j => hT.2 10 j
            have v3 : 0 ≤ τ_367.1 3 ∧ τ_367.1 3 ≤ 1000 := hT.1 3
            have v5 : 0 ≤ τ_367.1 5 ∧ τ_367.1 5 ≤ 1500 := hT.1 5
            have v45 : 0 ≤ τ_367.1 45 ∧ τ_367.1 45 ≤ 59 := hT.1 45
            have v46 : 0 ≤ τ_367.1 46 ∧ τ_367.1 46 ≤ 100 := hT.1 46
            have v47 : 0 ≤ τ_367.1 47 ∧ τ_367.1 47 ≤ 30001 := hT.1 47
            have v48 : 0 ≤ τ_367.1 48 ∧ τ_367.1 48 ≤ 1500 := hT.1 48
            refine h367 _ _ _ _ _ _ _ _ ?_
            refine ⟨(show 0 ≤ ((61 * u4_283) + n2) ∧ ((61 * u4_283) + n2) < 6200 from by (first | omega | (simp only [st_s] <;> omega) | assumption | omega | fail)), ?_⟩
            replace hT := mT_b (k := 4) (j := ((61 * u4_283) + n2)) (x := (x93 ||| 0)) hT
            refine ⟨(⟨by (first | omega | (simp only [st_s] <;> omega) | assumption | omega | fail), by (first | omega | (simp only [st_s] <;> omega) | assumption | omega | fail)⟩ : rg (u4_283 + 1)), ?_⟩
            exact ih_283 _ _ (show (101 - (u4_283 + 1) : Int) < ((m_283 : Nat) : Int) from by ((first | omega | (simp only [st_s] <;> omega) | assumption | omega | fail))) hT (show τ_367.1 3 = σ.1 3 from by first | exact W3 | omega) (show τ_367.1 5 = σ.1 5 from by first | exact W5 | omega) (show τ_367.1 45 = σ.1 45 from by first | exact W45 | omega) (show τ_367.1 46 = σ.1 46 from by first | exact W46 | omega) (show τ_367.1 47 = σ.1 47 from by first | exact W47 | omega) (show τ_367.1 48 = σ.1 48 from by first | exact W48 | omega) G71 G72 G73 G77 G78 G81 G82 G83 G84 G14 G16 G10 (show 0 ≤ (u4_283 + 1) ∧ (u4_283 + 1) ≤ (σ.1 46) from by (first | omega | (simp only [st_s] <;> omega) | assumption | omega | fail)) (show y_CS σ (τ_367.2.1 75) (τ_367.2.1 76) n1 n2 n3 from by (first | exact ycs | (rw [e_τ_367]; exact i283_2) | fail)) (show y_Fr (σ.1 47) n3 n1 n2 (fun z => ¬ y_FV (σ.2.1 78) (σ.2.1 77) z) (σ.2.1 72) (y_W1 (σ.1 3) (σ.2.1 71) (σ.2.1 75)) (y_W2 (σ.1 3) (σ.2.1 71) (σ.2.1 75)) (σ.2.1 78) (σ.2.1 77) (σ.2.1 83) (τ_367.2.2 5) (τ_367.2.2 6) from by (first | (rw [e_τ_367]; exact i283_3) | (rw [hf_τ16.2.2 5 (by decide), hf_τ16.2.2 6 (by decide)]; exact y_Fr_d i41_2 (fun x a b c d => ⟨fun z => z.2, fun z => ⟨by omega, z⟩⟩) p2) | fail)) (show ∀ s : Int, 0 ≤ s → s < (u4_283 + 1) → ∀ q : Int, 0 ≤ q → q < 64 → (j_b (τ_367.2.2 3 (61 * s + n2)) q ↔ j_b (σ.2.2 3 (61 * s + n2)) q ∨ (q = n1 ∧ 1 ≤ τ_367.2.1 75 ((s * 61 + n1) * 61 + n2))) ∧ (j_b ((st (τ_367.2.2 4) ((61 * u4_283) + n2) (x93 ||| 0)) (61 * s + n2)) q ↔ j_b (σ.2.2 4 (61 * s + n2)) q ∨ (q = n1 ∧ 2 ≤ τ_367.2.1 75 ((s * 61 + n1) * 61 + n2))) from by (first | (intro s a b; exfalso; omega) | (rw [e_x93, e_τ_367, e_x47]; exact (y_ss i283_4 i283_5 i283_1.1 (by first | exact y_g_k (by omega) (by omega) (by omega) | exact y_g_l (by omega)) (by first | exact y_g_k (by omega) (by omega) (by omega) | exact y_g_l (by omega))).1) | fail)) (show ∀ e : Int, (∀ s : Int, 0 ≤ s → s < (u4_283 + 1) → e ≠ 61 * s + n2) → τ_367.2.2 3 e = σ.2.2 3 e ∧ (st (τ_367.2.2 4) ((61 * u4_283) + n2) (x93 ||| 0)) e = σ.2.2 4 e from by (first | (rw [e_x93, e_τ_367, e_x47]; exact (y_ss i283_4 i283_5 i283_1.1 (by first | exact y_g_k (by omega) (by omega) (by omega) | exact y_g_l (by omega)) (by first | exact y_g_k (by omega) (by omega) (by omega) | exact y_g_l (by omega))).2) | (intro e h; rw [hf_τ16.2.2 3 (by decide), hf_τ16.2.2 4 (by decide), i41_6.1, i41_6.2]; exact ⟨rfl, rfl⟩) | fail))
          ·
            obtain ⟨τ_367, e_τ_367⟩ : ∃ z : S0, z = s_b τ_283 3 ((61 * u4_283) + n2) (x47 ||| 0) := ⟨_, rfl⟩
            rw [← e_τ_367]
            replace hT : m_T τ_367 := by rw [e_τ_367]; exact hT
            have w3_τ_367 : τ_367.1 3 = τ_283.1 3 := by rw [e_τ_367]; rfl
            have w5_τ_367 : τ_367.1 5 = τ_283.1 5 := by rw [e_τ_367]; rfl
            have w45_τ_367 : τ_367.1 45 = τ_283.1 45 := by rw [e_τ_367]; rfl
            have w46_τ_367 : τ_367.1 46 = τ_283.1 46 := by rw [e_τ_367]; rfl
            have w47_τ_367 : τ_367.1 47 = τ_283.1 47 := by rw [e_τ_367]; rfl
            have w48_τ_367 : τ_367.1 48 = τ_283.1 48 := by rw [e_τ_367]; rfl
            have g71_τ_367 : τ_367.2.1 71 = τ_283.2.1 71 := by rw [e_τ_367]; rfl
            have g72_τ_367 : τ_367.2.1 72 = τ_283.2.1 72 := by rw [e_τ_367]; rfl
            have g73_τ_367 : τ_367.2.1 73 = τ_283.2.1 73 := by rw [e_τ_367]; rfl
            have g75_τ_367 : τ_367.2.1 75 = τ_283.2.1 75 := by rw [e_τ_367]; rfl
            have g76_τ_367 : τ_367.2.1 76 = τ_283.2.1 76 := by rw [e_τ_367]; rfl
            have g77_τ_367 : τ_367.2.1 77 = τ_283.2.1 77 := by rw [e_τ_367]; rfl
            have g78_τ_367 : τ_367.2.1 78 = τ_283.2.1 78 := by rw [e_τ_367]; rfl
            have g81_τ_367 : τ_367.2.1 81 = τ_283.2.1 81 := by rw [e_τ_367]; rfl
            have g82_τ_367 : τ_367.2.1 82 = τ_283.2.1 82 := by rw [e_τ_367]; rfl
            have g83_τ_367 : τ_367.2.1 83 = τ_283.2.1 83 := by rw [e_τ_367]; rfl
            have g84_τ_367 : τ_367.2.1 84 = τ_283.2.1 84 := by rw [e_τ_367]; rfl
            have g14_τ_367 : τ_367.2.1 14 = τ_283.2.1 14 := by rw [e_τ_367]; rfl
            have g16_τ_367 : τ_367.2.1 16 = τ_283.2.1 16 := by rw [e_τ_367]; rfl
            have g10_τ_367 : τ_367.2.1 10 = τ_283.2.1 10 := by rw [e_τ_367]; rfl
            have W3 : τ_367.1 3 = σ.1 3 := by first | exact w3_τ_367.trans W3 | omega
            have W5 : τ_367.1 5 = σ.1 5 := by first | exact w5_τ_367.trans W5 | omega
            have W45 : τ_367.1 45 = σ.1 45 := by first | exact w45_τ_367.trans W45 | omega
            have W46 : τ_367.1 46 = σ.1 46 := by first | exact w46_τ_367.trans W46 | omega
            have W47 : τ_367.1 47 = σ.1 47 := by first | exact w47_τ_367.trans W47 | omega
            have W48 : τ_367.1 48 = σ.1 48 := by first | exact w48_τ_367.trans W48 | omega
            have G71 : τ_367.2.1 71 = σ.2.1 71 := (g71_τ_367).trans G71
            have G72 : τ_367.2.1 72 = σ.2.1 72 := (g72_τ_367).trans G72
            have G73 : τ_367.2.1 73 = σ.2.1 73 := (g73_τ_367).trans G73
            have G77 : τ_367.2.1 77 = σ.2.1 77 := (g77_τ_367).trans G77
            have G78 : τ_367.2.1 78 = σ.2.1 78 := (g78_τ_367).trans G78
            have G81 : τ_367.2.1 81 = σ.2.1 81 := (g81_τ_367).trans G81
            have G82 : τ_367.2.1 82 = σ.2.1 82 := (g82_τ_367).trans G82
            have G83 : τ_367.2.1 83 = σ.2.1 83 := (g83_τ_367).trans G83
            have G84 : τ_367.2.1 84 = σ.2.1 84 := (g84_τ_367).trans G84
            have G14 : τ_367.2.1 14 = σ.2.1 14 := (g14_τ_367).trans G14
            have G16 : τ_367.2.1 16 = σ.2.1 16 := (g16_τ_367).trans G16
            have G10 : τ_367.2.1 10 = σ.2.1 10 := (g10_τ_367).trans G10
            have A71 : ∀ j, (-1) ≤ τ_367.2.1 71 j ∧ τ_367.2.1 71 j ≤ 99 := fun j => hT.2 71 j
            have A72 : ∀ j, 0 ≤ τ_367.2.1 72 j ∧ τ_367.2.1 72 j ≤ 999 := fun j => hT.2 72 j
            have A73 : ∀ j, (-1) ≤ τ_367.2.1 73 j ∧ τ_367.2.1 73 j ≤ 99 := fun j => hT.2 73 j
            have A75 : ∀ j, 0 ≤ τ_367.2.1 75 j ∧ τ_367.2.1 75 j ≤ 3 := fun j => hT.2 75 j
            have A76 : ∀ j, (-1) ≤ τ_367.2.1 76 j ∧ τ_367.2.1 76 j ≤ 1499 := fun j => hT.2 76 j
            have A77 : ∀ j, (-1001) ≤ τ_367.2.1 77 j ∧ τ_367.2.1 77 j ≤ 999 := fun j => hT.2 77 j
            have A78 : ∀ j, (-1) ≤ τ_367.2.1 78 j ∧ τ_367.2.1 78 j ≤ 30001 := fun j => hT.2 78 j
            have A81 : ∀ j, 0 ≤ τ_367.2.1 81 j ∧ τ_367.2.1 81 j ≤ 1500 := fun j => hT.2 81 j
            have A82 : ∀ j, 0 ≤ τ_367.2.1 82 j ∧ τ_367.2.1 82 j ≤ 1500 := fun j => hT.2 82 j
            have A83 : ∀ j, 0 ≤ τ_367.2.1 83 j ∧ τ_367.2.1 83 j ≤ 1500 := fun j => hT.2 83 j
            have A84 : ∀ j, 0 ≤ τ_367.2.1 84 j ∧ τ_367.2.1 84 j ≤ 1499 := fun j => hT.2 84 j
            have A14 : ∀ j, 0 ≤ τ_367.2.1 14 j ∧ τ_367.2.1 14 j ≤ 30000 := fun j => hT.2 14 j
            have A16 : ∀ j, 0 ≤ τ_367.2.1 16 j ∧ τ_367.2.1 16 j ≤ 999 := fun j => hT.2 16 j
            have A10 : ∀ j, (-1) ≤ τ_367.2.1 10 j ∧ τ_367.2.1 10 j ≤ 999 := fun j => hT.2 10 j
            have v3 : 0 ≤ τ_367.1 3 ∧ τ_367.1 3 ≤ 1000 := hT.1 3
            have v5 : 0 ≤ τ_367.1 5 ∧ τ_367.1 5 ≤ 1500 := hT.1 5
            have v45 : 0 ≤ τ_367.1 45 ∧ τ_367.1 45 ≤ 59 := hT.1 45
            have v46 : 0 ≤ τ_367.1 46 ∧ τ_367.1 46 ≤ 100 := hT.1 46
            have v47 : 0 ≤ τ_367.1 47 ∧ τ_367.1 47 ≤ 30001 := hT.1 47
            have v48 : 0 ≤ τ_367.1 48 ∧ τ_367.1 48 ≤ 1500 := hT.1 48
            refine h367 _ _ _ _ _ _ _ _ ?_
            refine ⟨(show 0 ≤ ((61 * u4_283) + n2) ∧ ((61 * u4_283) + n2) < 6200 from by (first | omega | (simp only [st_s] <;> omega) | assumption | omega | fail)), ?_⟩
            replace hT := mT_b (k := 4) (j := ((61 * u4_283) + n2)) (x := (x93 ||| (j_shl 1 n1))) hT
            refine ⟨(⟨by (first | omega | (simp only [st_s] <;> omega) | assumption | omega | fail), by (first | omega | (simp only [st_s] <;> omega) | assumption | omega | fail)⟩ : rg (u4_283 + 1)), ?_⟩
            exact ih_283 _ _ (show (101 - (u4_283 + 1) : Int) < ((m_283 : Nat) : Int) from by ((first | omega | (simp only [st_s] <;> omega) | assumption | omega | fail))) hT (show τ_367.1 3 = σ.1 3 from by first | exact W3 | omega) (show τ_367.1 5 = σ.1 5 from by first | exact W5 | omega) (show τ_367.1 45 = σ.1 45 from by first | exact W45 | omega) (show τ_367.1 46 = σ.1 46 from by first | exact W46 | omega) (show τ_367.1 47 = σ.1 47 from by first | exact W47 | omega) (show τ_367.1 48 = σ.1 48 from by first | exact W48 | omega) G71 G72 G73 G77 G78 G81 G82 G83 G84 G14 G16 G10 (show 0 ≤ (u4_283 + 1) ∧ (u4_283 + 1) ≤ (σ.1 46) from by (first | omega | (simp only [st_s] <;> omega) | assumption | omega | fail)) (show y_CS σ (τ_367.2.1 75) (τ_367.2.1 76) n1 n2 n3 from by (first | exact ycs | (rw [e_τ_367]; exact i283_2) | fail)) (show y_Fr (σ.1 47) n3 n1 n2 (fun z => ¬ y_FV (σ.2.1 78) (σ.2.1 77) z) (σ.2.1 72) (y_W1 (σ.1 3) (σ.2.1 71) (σ.2.1 75)) (y_W2 (σ.1 3) (σ.2.1 71) (σ.2.1 75)) (σ.2.1 78) (σ.2.1 77) (σ.2.1 83) (τ_367.2.2 5) (τ_367.2.2 6) from by (first | (rw [e_τ_367]; exact i283_3) | (rw [hf_τ16.2.2 5 (by decide), hf_τ16.2.2 6 (by decide)]; exact y_Fr_d i41_2 (fun x a b c d => ⟨fun z => z.2, fun z => ⟨by omega, z⟩⟩) p2) | fail)) (show ∀ s : Int, 0 ≤ s → s < (u4_283 + 1) → ∀ q : Int, 0 ≤ q → q < 64 → (j_b (τ_367.2.2 3 (61 * s + n2)) q ↔ j_b (σ.2.2 3 (61 * s + n2)) q ∨ (q = n1 ∧ 1 ≤ τ_367.2.1 75 ((s * 61 + n1) * 61 + n2))) ∧ (j_b ((st (τ_367.2.2 4) ((61 * u4_283) + n2) (x93 ||| (j_shl 1 n1))) (61 * s + n2)) q ↔ j_b (σ.2.2 4 (61 * s + n2)) q ∨ (q = n1 ∧ 2 ≤ τ_367.2.1 75 ((s * 61 + n1) * 61 + n2))) from by (first | (intro s a b; exfalso; omega) | (rw [e_x93, e_τ_367, e_x47]; exact (y_ss i283_4 i283_5 i283_1.1 (by first | exact y_g_k (by omega) (by omega) (by omega) | exact y_g_l (by omega)) (by first | exact y_g_k (by omega) (by omega) (by omega) | exact y_g_l (by omega))).1) | fail)) (show ∀ e : Int, (∀ s : Int, 0 ≤ s → s < (u4_283 + 1) → e ≠ 61 * s + n2) → τ_367.2.2 3 e = σ.2.2 3 e ∧ (st (τ_367.2.2 4) ((61 * u4_283) + n2) (x93 ||| (j_shl 1 n1))) e = σ.2.2 4 e from by (first | (rw [e_x93, e_τ_367, e_x47]; exact (y_ss i283_4 i283_5 i283_1.1 (by first | exact y_g_k (by omega) (by omega) (by omega) | exact y_g_l (by omega)) (by first | exact y_g_k (by omega) (by omega) (by omega) | exact y_g_l (by omega))).2) | (intro e h; rw [hf_τ16.2.2 3 (by decide), hf_τ16.2.2 4 (by decide), i41_6.1, i41_6.2]; exact ⟨rfl, rfl⟩) | fail))
        ·
          refine h328 _ _ _ _ _ _ _ _ ?_
          refine ⟨(show 0 ≤ ((61 * u4_283) + n2) ∧ ((61 * u4_283) + n2) < 6200 from by (first | omega | (simp only [st_s] <;> omega) | assumption | omega | fail)), ?_⟩
          replace hT := mT_b (k := 3) (j := ((61 * u4_283) + n2)) (x := (x47 ||| (j_shl 1 n1))) hT
          refine ⟨(show 0 ≤ ((61 * u4_283) + n2) ∧ ((61 * u4_283) + n2) < 6200 from by (first | omega | (simp only [st_s] <;> omega) | assumption | omega | fail)), ?_⟩
          intro x93 e_x93
          refine ⟨_, K_X13_wayAt hT (show 0 ≤ u4_283 ∧ u4_283 ≤ 99 from by (first | omega | (simp only [st_s] <;> omega) | assumption | omega | fail)) (show 0 ≤ n1 ∧ n1 ≤ 60 from by (first | omega | (simp only [st_s] <;> omega) | assumption | omega | fail)) (show 0 ≤ n2 ∧ n2 ≤ 60 from by (first | omega | (simp only [st_s] <;> omega) | assumption | omega | fail)), ?_⟩
          intro x95 r_x95 hq
          obtain ⟨q94_1, q94_2⟩ := hq
          replace q94_1 : x95 = (u4_283 * 61 + n1) * 61 + n2 := q94_1
          replace q94_2 : 0 ≤ x95 ∧ x95 < 372100 := q94_2
          refine ⟨(show 0 ≤ x95 ∧ x95 < 372100 from by (first | omega | (simp only [st_s] <;> omega) | assumption | omega | fail)), ?_⟩
          intro x98 r_x98 e_x98
          have b_x98 : 0 ≤ x98 ∧ x98 ≤ 3 := by rw [e_x98]; exact hT.2 75 _
          rw [q94_1] at e_x98
          refine ⟨fun c99 => ?_, fun c99 => ?_⟩
          ·
            obtain ⟨τ_367, e_τ_367⟩ : ∃ z : S0, z = s_b τ_283 3 ((61 * u4_283) + n2) (x47 ||| (j_shl 1 n1)) := ⟨_, rfl⟩
            rw [← e_τ_367]
            replace hT : m_T τ_367 := by rw [e_τ_367]; exact hT
            have w3_τ_367 : τ_367.1 3 = τ_283.1 3 := by rw [e_τ_367]; rfl
            have w5_τ_367 : τ_367.1 5 = τ_283.1 5 := by rw [e_τ_367]; rfl
            have w45_τ_367 : τ_367.1 45 = τ_283.1 45 := by rw [e_τ_367]; rfl
            have w46_τ_367 : τ_367.1 46 = τ_283.1 46 := by rw [e_τ_367]; rfl
            have w47_τ_367 : τ_367.1 47 = τ_283.1 47 := by rw [e_τ_367]; rfl
            have w48_τ_367 : τ_367.1 48 = τ_283.1 48 := by rw [e_τ_367]; rfl
            have g71_τ_367 : τ_367.2.1 71 = τ_283.2.1 71 := by rw [e_τ_367]; rfl
            have g72_τ_367 : τ_367.2.1 72 = τ_283.2.1 72 := by rw [e_τ_367]; rfl
            have g73_τ_367 : τ_367.2.1 73 = τ_283.2.1 73 := by rw [e_τ_367]; rfl
            have g75_τ_367 : τ_367.2.1 75 = τ_283.2.1 75 := by rw [e_τ_367]; rfl
            have g76_τ_367 : τ_367.2.1 76 = τ_283.2.1 76 := by rw [e_τ_367]; rfl
            have g77_τ_367 : τ_367.2.1 77 = τ_283.2.1 77 := by rw [e_τ_367]; rfl
            have g78_τ_367 : τ_367.2.1 78 = τ_283.2.1 78 := by rw [e_τ_367]; rfl
            have g81_τ_367 : τ_367.2.1 81 = τ_283.2.1 81 := by rw [e_τ_367]; rfl
            have g82_τ_367 : τ_367.2.1 82 = τ_283.2.1 82 := by rw [e_τ_367]; rfl
            have g83_τ_367 : τ_367.2.1 83 = τ_283.2.1 83 := by rw [e_τ_367]; rfl
            have g84_τ_367 : τ_367.2.1 84 = τ_283.2.1 84 := by rw [e_τ_367]; rfl
            have g14_τ_367 : τ_367.2.1 14 = τ_283.2.1 14 := by rw [e_τ_367]; rfl
            have g16_τ_367 : τ_367.2.1 16 = τ_283.2.1 16 := by rw [e_τ_367]; rfl
            have g10_τ_367 : τ_367.2.1 10 = τ_283.2.1 10 := by rw [e_τ_367]; rfl
            have W3 : τ_367.1 3 = σ.1 3 := by first | exact w3_τ_367.trans W3 | omega
            have W5 : τ_367.1 5 = σ.1 5 := by first | exact w5_τ_367.trans W5 | omega
            have W45 : τ_367.1 45 = σ.1 45 := by first | exact w45_τ_367.trans W45 | omega
            have W46 : τ_367.1 46 = σ.1 46 := by first | exact w46_τ_367.trans W46 | omega
            have W47 : τ_367.1 47 = σ.1 47 := by first | exact w47_τ_367.trans W47 | omega
            have W48 : τ_367.1 48 = σ.1 48 := by first | exact w48_τ_367.trans W48 | omega
            have G71 : τ_367.2.1 71 = σ.2.1 71 := (g71_τ_367).trans G71
            have G72 : τ_367.2.1 72 = σ.2.1 72 := (g72_τ_367).trans G72
            have G73 : τ_367.2.1 73 = σ.2.1 73 := (g73_τ_367).trans G73
            have G77 : τ_367.2.1 77 = σ.2.1 77 := (g77_τ_367).trans G77
            have G78 : τ_367.2.1 78 = σ.2.1 78 := (g78_τ_367).trans G78
            have G81 : τ_367.2.1 81 = σ.2.1 81 := (g81_τ_367).trans G81
            have G82 : τ_367.2.1 82 = σ.2.1 82 := (g82_τ_367).trans G82
            have G83 : τ_367.2.1 83 = σ.2.1 83 := (g83_τ_367).trans G83
            have G84 : τ_367.2.1 84 = σ.2.1 84 := (g84_τ_367).trans G84
            have G14 : τ_367.2.1 14 = σ.2.1 14 := (g14_τ_367).trans G14
            have G16 : τ_367.2.1 16 = σ.2.1 16 := (g16_τ_367).trans G16
            have G10 : τ_367.2.1 10 = σ.2.1 10 := (g10_τ_367).trans G10
            have A71 : ∀ j, (-1) ≤ τ_367.2.1 71 j ∧ τ_367.2.1 71 j ≤ 99 := fun j => hT.2 71 j
            have A72 : ∀ j, 0 ≤ τ_367.2.1 72 j ∧ τ_367.2.1 72 j ≤ 999 := fun j => hT.2 72 j
            have A73 : ∀ j, (-1) ≤ τ_367.2.1 73 j ∧ τ_367.2.1 73 j ≤ 99 := fun j => hT.2 73 j
            have A75 : ∀ j, 0 ≤ τ_367.2.1 75 j ∧ τ_367.2.1 75 j ≤ 3 := fun j => hT.2 75 j
            have A76 : ∀ j, (-1) ≤ τ_367.2.1 76 j ∧ τ_367.2.1 76 j ≤ 1499 := fun j => hT.2 76 j
            have A77 : ∀ j, (-1001) ≤ τ_367.2.1 77 j ∧ τ_367.2.1 77 j ≤ 999 := fun j => hT.2 77 j
            have A78 : ∀ j, (-1) ≤ τ_367.2.1 78 j ∧ τ_367.2.1 78 j ≤ 30001 := fun j => hT.2 78 j
            have A81 : ∀ j, 0 ≤ τ_367.2.1 81 j ∧ τ_367.2.1 81 j ≤ 1500 := fun j => hT.2 81 j
            have A82 : ∀ j, 0 ≤ τ_367.2.1 82 j ∧ τ_367.2.1 82 j ≤ 1500 := fun j => hT.2 82 j
            have A83 : ∀ j, 0 ≤ τ_367.2.1 83 j ∧ τ_367.2.1 83 j ≤ 1500 := fun j => hT.2 83 j
            have A84 : ∀ j, 0 ≤ τ_367.2.1 84 j ∧ τ_367.2.1 84 j ≤ 1499 := fun j => hT.2 84 j
            have A14 : ∀ j, 0 ≤ τ_367.2.1 14 j ∧ τ_367.2.1 14 j ≤ 30000 := fun j => hT.2 14 j
            have A16 : ∀ j, 0 ≤ τ_367.2.1 16 j ∧ τ_367.2.1 16 j ≤ 999 := fun j => hT.2 16 j
            have A10 : ∀ j, (-1) ≤ τ_367.2.1 10 j ∧ τ_367.2.1 10 j ≤ 999 := fun j => hT.2 10 j
            have v3 : 0 ≤ τ_367.1 3 ∧ τ_367.1 3 ≤ 1000 := hT.1 3
            have v5 : 0 ≤ τ_367.1 5 ∧ τ_367.1 5 ≤ 1500 := hT.1 5
            have v45 : 0 ≤ τ_367.1 45 ∧ τ_367.1 45 ≤ 59 := hT.1 45
            have v46 : 0 ≤ τ_367.1 46 ∧ τ_367.1 46 ≤ 100 := hT.1 46
            have v47 : 0 ≤ τ_367.1 47 ∧ τ_367.1 47 ≤ 30001 := hT.1 47
            have v48 : 0 ≤ τ_367.1 48 ∧ τ_367.1 48 ≤ 1500 := hT.1 48
            refine h367 _ _ _ _ _ _ _ _ ?_
            refine ⟨(show 0 ≤ ((61 * u4_283) + n2) ∧ ((61 * u4_283) + n2) < 6200 from by (first | omega | (simp only [st_s] <;> omega) | assumption | omega | fail)), ?_⟩
            replace hT := mT_b (k := 4) (j := ((61 * u4_283) + n2)) (x := (x93 ||| 0)) hT
            refine ⟨(⟨by (first | omega | (simp only [st_s] <;> omega) | assumption | omega | fail), by (first | omega | (simp only [st_s] <;> omega) | assumption | omega | fail)⟩ : rg (u4_283 + 1)), ?_⟩
            exact ih_283 _ _ (show (101 - (u4_283 + 1) : Int) < ((m_283 : Nat) : Int) from by ((first | omega | (simp only [st_s] <;> omega) | assumption | omega | fail))) hT (show τ_367.1 3 = σ.1 3 from by first | exact W3 | omega) (show τ_367.1 5 = σ.1 5 from by first | exact W5 | omega) (show τ_367.1 45 = σ.1 45 from by first | exact W45 | omega) (show τ_367.1 46 = σ.1 46 from by first | exact W46 | omega) (show τ_367.1 47 = σ.1 47 from by first | exact W47 | omega) (show τ_367.1 48 = σ.1 48 from by first | exact W48 | omega) G71 G72 G73 G77 G78 G81 G82 G83 G84 G14 G16 G10 (show 0 ≤ (u4_283 + 1) ∧ (u4_283 + 1) ≤ (σ.1 46) from by (first | omega | (simp only [st_s] <;> omega) | assumption | omega | fail)) (show y_CS σ (τ_367.2.1 75) (τ_367.2.1 76) n1 n2 n3 from by (first | exact ycs | (rw [e_τ_367]; exact i283_2) | fail)) (show y_Fr (σ.1 47) n3 n1 n2 (fun z => ¬ y_FV (σ.2.1 78) (σ.2.1 77) z) (σ.2.1 72) (y_W1 (σ.1 3) (σ.2.1 71) (σ.2.1 75)) (y_W2 (σ.1 3) (σ.2.1 71) (σ.2.1 75)) (σ.2.1 78) (σ.2.1 77) (σ.2.1 83) (τ_367.2.2 5) (τ_367.2.2 6) from by (first | (rw [e_τ_367]; exact i283_3) | (rw [hf_τ16.2.2 5 (by decide), hf_τ16.2.2 6 (by decide)]; exact y_Fr_d i41_2 (fun x a b c d => ⟨fun z => z.2, fun z => ⟨by omega, z⟩⟩) p2) | fail)) (show ∀ s : Int, 0 ≤ s → s < (u4_283 + 1) → ∀ q : Int, 0 ≤ q → q < 64 → (j_b (τ_367.2.2 3 (61 * s + n2)) q ↔ j_b (σ.2.2 3 (61 * s + n2)) q ∨ (q = n1 ∧ 1 ≤ τ_367.2.1 75 ((s * 61 + n1) * 61 + n2))) ∧ (j_b ((st (τ_367.2.2 4) ((61 * u4_283) + n2) (x93 ||| 0)) (61 * s + n2)) q ↔ j_b (σ.2.2 4 (61 * s + n2)) q ∨ (q = n1 ∧ 2 ≤ τ_367.2.1 75 ((s * 61 + n1) * 61 + n2))) from by (first | (intro s a b; exfalso; omega) | (rw [e_x93, e_τ_367, e_x47]; exact (y_ss i283_4 i283_5 i283_1.1 (by first | exact y_g_k (by omega) (by omega) (by omega) | exact y_g_l (by omega)) (by first | exact y_g_k (by omega) (by omega) (by omega) | exact y_g_l (by omega))).1) | fail)) (show ∀ e : Int, (∀ s : Int, 0 ≤ s → s < (u4_283 + 1) → e ≠ 61 * s + n2) → τ_367.2.2 3 e = σ.2.2 3 e ∧ (st (τ_367.2.2 4) ((61 * u4_283) + n2) (x93 ||| 0)) e = σ.2.2 4 e from by (first | (rw [e_x93, e_τ_367, e_x47]; exact (y_ss i283_4 i283_5 i283_1.1 (by first | exact y_g_k (by omega) (by omega) (by omega) | exact y_g_l (by omega)) (by first | exact y_g_k (by omega) (by omega) (by omega) | exact y_g_l (by omega))).2) | (intro e h; rw [hf_τ16.2.2 3 (by decide), hf_τ16.2.2 4 (by decide), i41_6.1, i41_6.2]; exact ⟨rfl, rfl⟩) | fail))
          ·
            obtain ⟨τ_367, e_τ_367⟩ : ∃ z : S0, z = s_b τ_283 3 ((61 * u4_283) + n2) (x47 ||| (j_shl 1 n1)) := ⟨_, rfl⟩
            rw [← e_τ_367]
            replace hT : m_T τ_367 := by rw [e_τ_367]; exact hT
            have w3_τ_367 : τ_367.1 3 = τ_283.1 3 := by rw [e_τ_367]; rfl
            have w5_τ_367 : τ_367.1 5 = τ_283.1 5 := by rw [e_τ_367]; rfl
            have w45_τ_367 : τ_367.1 45 = τ_283.1 45 := by rw [e_τ_367]; rfl
            have w46_τ_367 : τ_367.1 46 = τ_283.1 46 := by rw [e_τ_367]; rfl
            have w47_τ_367 : τ_367.1 47 = τ_283.1 47 := by rw [e_τ_367]; rfl
            have w48_τ_367 : τ_367.1 48 = τ_283.1 48 := by rw [e_τ_367]; rfl
            have g71_τ_367 : τ_367.2.1 71 = τ_283.2.1 71 := by rw [e_τ_367]; rfl
            have g72_τ_367 : τ_367.2.1 72 = τ_283.2.1 72 := by rw [e_τ_367]; rfl
            have g73_τ_367 : τ_367.2.1 73 = τ_283.2.1 73 := by rw [e_τ_367]; rfl
            have g75_τ_367 : τ_367.2.1 75 = τ_283.2.1 75 := by rw [e_τ_367]; rfl
            have g76_τ_367 : τ_367.2.1 76 = τ_283.2.1 76 := by rw [e_τ_367]; rfl
            have g77_τ_367 : τ_367.2.1 77 = τ_283.2.1 77 := by rw [e_τ_367]; rfl
            have g78_τ_367 : τ_367.2.1 78 = τ_283.2.1 78 := by rw [e_τ_367]; rfl
            have g81_τ_367 : τ_367.2.1 81 = τ_283.2.1 81 := by rw [e_τ_367]; rfl
            have g82_τ_367 : τ_367.2.1 82 = τ_283.2.1 82 := by rw [e_τ_367]; rfl
            have g83_τ_367 : τ_367.2.1 83 = τ_283.2.1 83 := by rw [e_τ_367]; rfl
            have g84_τ_367 : τ_367.2.1 84 = τ_283.2.1 84 := by rw [e_τ_367]; rfl
            have g14_τ_367 : τ_367.2.1 14 = τ_283.2.1 14 := by rw [e_τ_367]; rfl
            have g16_τ_367 : τ_367.2.1 16 = τ_283.2.1 16 := by rw [e_τ_367]; rfl
            have g10_τ_367 : τ_367.2.1 10 = τ_283.2.1 10 := by rw [e_τ_367]; rfl
            have W3 : τ_367.1 3 = σ.1 3 := by first | exact w3_τ_367.trans W3 | omega
            have W5 : τ_367.1 5 = σ.1 5 := by first | exact w5_τ_367.trans W5 | omega
            have W45 : τ_367.1 45 = σ.1 45 := by first | exact w45_τ_367.trans W45 | omega
            have W46 : τ_367.1 46 = σ.1 46 := by first | exact w46_τ_367.trans W46 | omega
            have W47 : τ_367.1 47 = σ.1 47 := by first | exact w47_τ_367.trans W47 | omega
            have W48 : τ_367.1 48 = σ.1 48 := by first | exact w48_τ_367.trans W48 | omega
            have G71 : τ_367.2.1 71 = σ.2.1 71 := (g71_τ_367).trans G71
            have G72 : τ_367.2.1 72 = σ.2.1 72 := (g72_τ_367).trans G72
            have G73 : τ_367.2.1 73 = σ.2.1 73 := (g73_τ_367).trans G73
            have G77 : τ_367.2.1 77 = σ.2.1 77 := (g77_τ_367).trans G77
            have G78 : τ_367.2.1 78 = σ.2.1 78 := (g78_τ_367).trans G78
            have G81 : τ_367.2.1 81 = σ.2.1 81 := (g81_τ_367).trans G81
            have G82 : τ_367.2.1 82 = σ.2.1 82 := (g82_τ_367).trans G82
            have G83 : τ_367.2.1 83 = σ.2.1 83 := (g83_τ_367).trans G83
            have G84 : τ_367.2.1 84 = σ.2.1 84 := (g84_τ_367).trans G84
            have G14 : τ_367.2.1 14 = σ.2.1 14 := (g14_τ_367).trans G14
            have G16 : τ_367.2.1 16 = σ.2.1 16 := (g16_τ_367).trans G16
            have G10 : τ_367.2.1 10 = σ.2.1 10 := (g10_τ_367).trans G10
            have A71 : ∀ j, (-1) ≤ τ_367.2.1 71 j ∧ τ_367.2.1 71 j ≤ 99 := fun j => hT.2 71 j
            have A72 : ∀ j, 0 ≤ τ_367.2.1 72 j ∧ τ_367.2.1 72 j ≤ 999 := fun j => hT.2 72 j
            have A73 : ∀ j, (-1) ≤ τ_367.2.1 73 j ∧ τ_367.2.1 73 j ≤ 99 := fun j => hT.2 73 j
            have A75 : ∀ j, 0 ≤ τ_367.2.1 75 j ∧ τ_367.2.1 75 j ≤ 3 := fun j => hT.2 75 j
            have A76 : ∀ j, (-1) ≤ τ_367.2.1 76 j ∧ τ_367.2.1 76 j ≤ 1499 := fun j => hT.2 76 j
            have A77 : ∀ j, (-1001) ≤ τ_367.2.1 77 j ∧ τ_367.2.1 77 j ≤ 999 := fun j => hT.2 77 j
            have A78 : ∀ j, (-1) ≤ τ_367.2.1 78 j ∧ τ_367.2.1 78 j ≤ 30001 := fun j => hT.2 78 j
            have A81 : ∀ j, 0 ≤ τ_367.2.1 81 j ∧ τ_367.2.1 81 j ≤ 1500 := fun j => hT.2 81 j
            have A82 : ∀ j, 0 ≤ τ_367.2.1 82 j ∧ τ_367.2.1 82 j ≤ 1500 := fun j => hT.2 82 j
            have A83 : ∀ j, 0 ≤ τ_367.2.1 83 j ∧ τ_367.2.1 83 j ≤ 1500 := fun j => hT.2 83 j
            have A84 : ∀ j, 0 ≤ τ_367.2.1 84 j ∧ τ_367.2.1 84 j ≤ 1499 := fun j => hT.2 84 j
            have A14 : ∀ j, 0 ≤ τ_367.2.1 14 j ∧ τ_367.2.1 14 j ≤ 30000 := fun j => hT.2 14 j
            have A16 : ∀ j, 0 ≤ τ_367.2.1 16 j ∧ τ_367.2.1 16 j ≤ 999 := fun j => hT.2 16 j
            have A10 : ∀ j, (-1) ≤ τ_367.2.1 10 j ∧ τ_367.2.1 10 j ≤ 999 := fun j => hT.2 10 j
            have v3 : 0 ≤ τ_367.1 3 ∧ τ_367.1 3 ≤ 1000 := hT.1 3
            have v5 : 0 ≤ τ_367.1 5 ∧ τ_367.1 5 ≤ 1500 := hT.1 5
            have v45 : 0 ≤ τ_367.1 45 ∧ τ_367.1 45 ≤ 59 := hT.1 45
            have v46 : 0 ≤ τ_367.1 46 ∧ τ_367.1 46 ≤ 100 := hT.1 46
            have v47 : 0 ≤ τ_367.1 47 ∧ τ_367.1 47 ≤ 30001 := hT.1 47
            have v48 : 0 ≤ τ_367.1 48 ∧ τ_367.1 48 ≤ 1500 := hT.1 48
            refine h367 _ _ _ _ _ _ _ _ ?_
            refine ⟨(show 0 ≤ ((61 * u4_283) + n2) ∧ ((61 * u4_283) + n2) < 6200 from by (first | omega | (simp only [st_s] <;> omega) | assumption | omega | fail)), ?_⟩
            replace hT := mT_b (k := 4) (j := ((61 * u4_283) + n2)) (x := (x93 ||| (j_shl 1 n1))) hT
            refine ⟨(⟨by (first | omega | (simp only [st_s] <;> omega) | assumption | omega | fail), by (first | omega | (simp only [st_s] <;> omega) | assumption | omega | fail)⟩ : rg (u4_283 + 1)), ?_⟩
            exact ih_283 _ _ (show (101 - (u4_283 + 1) : Int) < ((m_283 : Nat) : Int) from by ((first | omega | (simp only [st_s] <;> omega) | assumption | omega | fail))) hT (show τ_367.1 3 = σ.1 3 from by first | exact W3 | omega) (show τ_367.1 5 = σ.1 5 from by first | exact W5 | omega) (show τ_367.1 45 = σ.1 45 from by first | exact W45 | omega) (show τ_367.1 46 = σ.1 46 from by first | exact W46 | omega) (show τ_367.1 47 = σ.1 47 from by first | exact W47 | omega) (show τ_367.1 48 = σ.1 48 from by first | exact W48 | omega) G71 G72 G73 G77 G78 G81 G82 G83 G84 G14 G16 G10 (show 0 ≤ (u4_283 + 1) ∧ (u4_283 + 1) ≤ (σ.1 46) from by (first | omega | (simp only [st_s] <;> omega) | assumption | omega | fail)) (show y_CS σ (τ_367.2.1 75) (τ_367.2.1 76) n1 n2 n3 from by (first | exact ycs | (rw [e_τ_367]; exact i283_2) | fail)) (show y_Fr (σ.1 47) n3 n1 n2 (fun z => ¬ y_FV (σ.2.1 78) (σ.2.1 77) z) (σ.2.1 72) (y_W1 (σ.1 3) (σ.2.1 71) (σ.2.1 75)) (y_W2 (σ.1 3) (σ.2.1 71) (σ.2.1 75)) (σ.2.1 78) (σ.2.1 77) (σ.2.1 83) (τ_367.2.2 5) (τ_367.2.2 6) from by (first | (rw [e_τ_367]; exact i283_3) | (rw [hf_τ16.2.2 5 (by decide), hf_τ16.2.2 6 (by decide)]; exact y_Fr_d i41_2 (fun x a b c d => ⟨fun z => z.2, fun z => ⟨by omega, z⟩⟩) p2) | fail)) (show ∀ s : Int, 0 ≤ s → s < (u4_283 + 1) → ∀ q : Int, 0 ≤ q → q < 64 → (j_b (τ_367.2.2 3 (61 * s + n2)) q ↔ j_b (σ.2.2 3 (61 * s + n2)) q ∨ (q = n1 ∧ 1 ≤ τ_367.2.1 75 ((s * 61 + n1) * 61 + n2))) ∧ (j_b ((st (τ_367.2.2 4) ((61 * u4_283) + n2) (x93 ||| (j_shl 1 n1))) (61 * s + n2)) q ↔ j_b (σ.2.2 4 (61 * s + n2)) q ∨ (q = n1 ∧ 2 ≤ τ_367.2.1 75 ((s * 61 + n1) * 61 + n2))) from by (first | (intro s a b; exfalso; omega) | (rw [e_x93, e_τ_367, e_x47]; exact (y_ss i283_4 i283_5 i283_1.1 (by first | exact y_g_k (by omega) (by omega) (by omega) | exact y_g_l (by omega)) (by first | exact y_g_k (by omega) (by omega) (by omega) | exact y_g_l (by omega))).1) | fail)) (show ∀ e : Int, (∀ s : Int, 0 ≤ s → s < (u4_283 + 1) → e ≠ 61 * s + n2) → τ_367.2.2 3 e = σ.2.2 3 e ∧ (st (τ_367.2.2 4) ((61 * u4_283) + n2) (x93 ||| (j_shl 1 n1))) e = σ.2.2 4 e from by (first | (rw [e_x93, e_τ_367, e_x47]; exact (y_ss i283_4 i283_5 i283_1.1 (by first | exact y_g_k (by omega) (by omega) (by omega) | exact y_g_l (by omega)) (by first | exact y_g_k (by omega) (by omega) (by omega) | exact y_g_l (by omega))).2) | (intro e h; rw [hf_τ16.2.2 3 (by decide), hf_τ16.2.2 4 (by decide), i41_6.1, i41_6.2]; exact ⟨rfl, rfl⟩) | fail))
  have l_41 : ∀ (m_41 : Nat) (u4_41 : Int) (τ_41 : S0), 30002 - u4_41 < (m_41 : Int) → (m_T τ_41) → (τ_41.1 3 = σ.1 3) → (τ_41.1 5 = σ.1 5) → (τ_41.1 45 = σ.1 45) → (τ_41.1 46 = σ.1 46) → (τ_41.1 47 = σ.1 47) → (τ_41.1 48 = σ.1 48) → (τ_41.2.1 71 = σ.2.1 71) → (τ_41.2.1 72 = σ.2.1 72) → (τ_41.2.1 73 = σ.2.1 73) → (τ_41.2.1 77 = σ.2.1 77) → (τ_41.2.1 78 = σ.2.1 78) → (τ_41.2.1 81 = σ.2.1 81) → (τ_41.2.1 82 = σ.2.1 82) → (τ_41.2.1 83 = σ.2.1 83) → (τ_41.2.1 84 = σ.2.1 84) → (τ_41.2.1 14 = σ.2.1 14) → (τ_41.2.1 16 = σ.2.1 16) → (τ_41.2.1 10 = σ.2.1 10) → (1 ≤ u4_41 ∧ u4_41 ≤ (σ.1 47)) → (y_Fr (σ.1 47) n3 n1 n2 (fun z => z < u4_41 ∧ ¬ y_FV (σ.2.1 78) (σ.2.1 77) z) (σ.2.1 72) (y_W1 (σ.1 3) (σ.2.1 71) (σ.2.1 75)) (y_W2 (σ.1 3) (σ.2.1 71) (σ.2.1 75)) (σ.2.1 78) (σ.2.1 77) (σ.2.1 83) (τ_41.2.2 5) (τ_41.2.2 6)) → (y_B (σ.1 3) n1 n2 u4_41 (σ.2.1 71) (fun t => y_L (y_ls (σ.1 3) (σ.2.1 71) (σ.2.1 73)) t n1 n2) (y_N1 n3 (y_hd σ) (y_nn σ) (y_f σ) (σ.2.1 72) (y_W1 (σ.1 3) (σ.2.1 71) (σ.2.1 75)) n1 n2 (σ.2.1 81)) (y_N2 n3 (y_hd σ) (y_nn σ) (y_f σ) (σ.2.1 72) (y_W1 (σ.1 3) (σ.2.1 71) (σ.2.1 75)) (y_W2 (σ.1 3) (σ.2.1 71) (σ.2.1 75)) n1 n2 (σ.2.1 81) (σ.2.1 82)) (σ.2.1 81) (τ_41.2.1 75) (τ_41.2.1 76)) → (∀ s : Int, 0 ≤ s → s < (σ.1 46) → ∀ p q : Int, 0 ≤ p → p ≤ 60 → 0 ≤ q → q ≤ 60 → ¬ (p = n1 ∧ q = n2) → τ_41.2.1 75 ((s * 61 + p) * 61 + q) = σ.2.1 75 ((s * 61 + p) * 61 + q) ∧ τ_41.2.1 76 ((s * 61 + p) * 61 + q) = σ.2.1 76 ((s * 61 + p) * 61 + q)) → (∀ s : Int, 0 ≤ s → s < (σ.1 46) → 0 ≤ τ_41.2.1 75 ((s * 61 + n1) * 61 + n2) ∧ τ_41.2.1 75 ((s * 61 + n1) * 61 + n2) ≤ 2) → (τ_41.2.2 3 = σ.2.2 3 ∧ τ_41.2.2 4 = σ.2.2 4) → P41 n1 n2 n3 u4_41 τ_41 := by
    intro m_41
    induction m_41 with
    | zero =>
      intro u4_41 τ_41 hm hT W3 W5 W45 W46 W47 W48 G71 G72 G73 G77 G78 G81 G82 G83 G84 G14 G16 G10 i41_1 i41_2 i41_3 i41_4 i41_5 i41_6
      have A71 : ∀ j, (-1) ≤ τ_41.2.1 71 j ∧ τ_41.2.1 71 j ≤ 99 := fun j => hT.2 71 j
      have A72 : ∀ j, 0 ≤ τ_41.2.1 72 j ∧ τ_41.2.1 72 j ≤ 999 := fun j => hT.2 72 j
      have A73 : ∀ j, (-1) ≤ τ_41.2.1 73 j ∧ τ_41.2.1 73 j ≤ 99 := fun j => hT.2 73 j
      have A75 : ∀ j, 0 ≤ τ_41.2.1 75 j ∧ τ_41.2.1 75 j ≤ 3 := fun j => hT.2 75 j
      have A76 : ∀ j, (-1) ≤ τ_41.2.1 76 j ∧ τ_41.2.1 76 j ≤ 1499 := fun j => hT.2 76 j
      have A77 : ∀ j, (-1001) ≤ τ_41.2.1 77 j ∧ τ_41.2.1 77 j ≤ 999 := fun j => hT.2 77 j
      have A78 : ∀ j, (-1) ≤ τ_41.2.1 78 j ∧ τ_41.2.1 78 j ≤ 30001 := fun j => hT.2 78 j
      have A81 : ∀ j, 0 ≤ τ_41.2.1 81 j ∧ τ_41.2.1 81 j ≤ 1500 := fun j => hT.2 81 j
      have A82 : ∀ j, 0 ≤ τ_41.2.1 82 j ∧ τ_41.2.1 82 j ≤ 1500 := fun j => hT.2 82 j
      have A83 : ∀ j, 0 ≤ τ_41.2.1 83 j ∧ τ_41.2.1 83 j ≤ 1500 := fun j => hT.2 83 j
      have A84 : ∀ j, 0 ≤ τ_41.2.1 84 j ∧ τ_41.2.1 84 j ≤ 1499 := fun j => hT.2 84 j
      have A14 : ∀ j, 0 ≤ τ_41.2.1 14 j ∧ τ_41.2.1 14 j ≤ 30000 := fun j => hT.2 14 j
      have A16 : ∀ j, 0 ≤ τ_41.2.1 16 j ∧ τ_41.2.1 16 j ≤ 999 := fun j => hT.2 16 j
      have A10 : ∀ j, (-1) ≤ τ_41.2.1 10 j ∧ τ_41.2.1 10 j ≤ 999 := fun j => hT.2 10 j
      have v3 : 0 ≤ τ_41.1 3 ∧ τ_41.1 3 ≤ 1000 := hT.1 3
      have v5 : 0 ≤ τ_41.1 5 ∧ τ_41.1 5 ≤ 1500 := hT.1 5
      have v45 : 0 ≤ τ_41.1 45 ∧ τ_41.1 45 ≤ 59 := hT.1 45
      have v46 : 0 ≤ τ_41.1 46 ∧ τ_41.1 46 ≤ 100 := hT.1 46
      have v47 : 0 ≤ τ_41.1 47 ∧ τ_41.1 47 ≤ 30001 := hT.1 47
      have v48 : 0 ≤ τ_41.1 48 ∧ τ_41.1 48 ≤ 1500 := hT.1 48
      exfalso; (first | omega | (simp only [st_s] <;> omega) | assumption | omega | fail)
    | succ m_41 ih_41 =>
      intro u4_41 τ_41 hm_41 hT W3 W5 W45 W46 W47 W48 G71 G72 G73 G77 G78 G81 G82 G83 G84 G14 G16 G10 i41_1 i41_2 i41_3 i41_4 i41_5 i41_6
      have A71 : ∀ j, (-1) ≤ τ_41.2.1 71 j ∧ τ_41.2.1 71 j ≤ 99 := fun j => hT.2 71 j
      have A72 : ∀ j, 0 ≤ τ_41.2.1 72 j ∧ τ_41.2.1 72 j ≤ 999 := fun j => hT.2 72 j
      have A73 : ∀ j, (-1) ≤ τ_41.2.1 73 j ∧ τ_41.2.1 73 j ≤ 99 := fun j => hT.2 73 j
      have A75 : ∀ j, 0 ≤ τ_41.2.1 75 j ∧ τ_41.2.1 75 j ≤ 3 := fun j => hT.2 75 j
      have A76 : ∀ j, (-1) ≤ τ_41.2.1 76 j ∧ τ_41.2.1 76 j ≤ 1499 := fun j => hT.2 76 j
      have A77 : ∀ j, (-1001) ≤ τ_41.2.1 77 j ∧ τ_41.2.1 77 j ≤ 999 := fun j => hT.2 77 j
      have A78 : ∀ j, (-1) ≤ τ_41.2.1 78 j ∧ τ_41.2.1 78 j ≤ 30001 := fun j => hT.2 78 j
      have A81 : ∀ j, 0 ≤ τ_41.2.1 81 j ∧ τ_41.2.1 81 j ≤ 1500 := fun j => hT.2 81 j
      have A82 : ∀ j, 0 ≤ τ_41.2.1 82 j ∧ τ_41.2.1 82 j ≤ 1500 := fun j => hT.2 82 j
      have A83 : ∀ j, 0 ≤ τ_41.2.1 83 j ∧ τ_41.2.1 83 j ≤ 1500 := fun j => hT.2 83 j
      have A84 : ∀ j, 0 ≤ τ_41.2.1 84 j ∧ τ_41.2.1 84 j ≤ 1499 := fun j => hT.2 84 j
      have A14 : ∀ j, 0 ≤ τ_41.2.1 14 j ∧ τ_41.2.1 14 j ≤ 30000 := fun j => hT.2 14 j
      have A16 : ∀ j, 0 ≤ τ_41.2.1 16 j ∧ τ_41.2.1 16 j ≤ 999 := fun j => hT.2 16 j
      have A10 : ∀ j, (-1) ≤ τ_41.2.1 10 j ∧ τ_41.2.1 10 j ≤ 999 := fun j => hT.2 10 j
      have v3 : 0 ≤ τ_41.1 3 ∧ τ_41.1 3 ≤ 1000 := hT.1 3
      have v5 : 0 ≤ τ_41.1 5 ∧ τ_41.1 5 ≤ 1500 := hT.1 5
      have v45 : 0 ≤ τ_41.1 45 ∧ τ_41.1 45 ≤ 59 := hT.1 45
      have v46 : 0 ≤ τ_41.1 46 ∧ τ_41.1 46 ≤ 100 := hT.1 46
      have v47 : 0 ≤ τ_41.1 47 ∧ τ_41.1 47 ≤ 30001 := hT.1 47
      have v48 : 0 ≤ τ_41.1 48 ∧ τ_41.1 48 ≤ 1500 := hT.1 48
      have ux := qT.1 u4_41 i41_1.1
      have uN : σ.2.1 78 u4_41 < σ.1 47 ∨ σ.1 47 ≤ u4_41 := by (rcases (by omega : σ.1 47 ≤ u4_41 ∨ u4_41 < σ.1 47) with z | z; (exact Or.inr z); (have w := ux z; exact Or.inl (by omega)))
      have l_137 : ∀ (m_137 : Nat) (u4_137 : Int) (u5_137 : Int) (τ_137 : S0), u5_137 < (m_137 : Int) → (m_T τ_137) → (τ_137.1 3 = σ.1 3) → (τ_137.1 5 = σ.1 5) → (τ_137.1 45 = σ.1 45) → (τ_137.1 46 = σ.1 46) → (τ_137.1 47 = σ.1 47) → (τ_137.1 48 = σ.1 48) → (τ_137.2.1 71 = σ.2.1 71) → (τ_137.2.1 72 = σ.2.1 72) → (τ_137.2.1 73 = σ.2.1 73) → (τ_137.2.1 77 = σ.2.1 77) → (τ_137.2.1 78 = σ.2.1 78) → (τ_137.2.1 81 = σ.2.1 81) → (τ_137.2.1 82 = σ.2.1 82) → (τ_137.2.1 83 = σ.2.1 83) → (τ_137.2.1 84 = σ.2.1 84) → (τ_137.2.1 14 = σ.2.1 14) → (τ_137.2.1 16 = σ.2.1 16) → (τ_137.2.1 10 = σ.2.1 10) → (1 ≤ u4_137 ∧ u4_137 < (σ.1 47)) → (y_Fr (σ.1 47) n3 n1 n2 (fun z => (z < u4_137 ∧ ¬ y_FV (σ.2.1 78) (σ.2.1 77) z) ∨ z = u4_137) (σ.2.1 72) (y_W1 (σ.1 3) (σ.2.1 71) (σ.2.1 75)) (y_W2 (σ.1 3) (σ.2.1 71) (σ.2.1 75)) (σ.2.1 78) (σ.2.1 77) (σ.2.1 83) (τ_137.2.2 5) (τ_137.2.2 6)) → (y_B (σ.1 3) n1 n2 u4_137 (σ.2.1 71) (fun t => y_L (y_ls (σ.1 3) (σ.2.1 71) (σ.2.1 73)) t n1 n2) (y_N1 n3 (y_hd σ) (y_nn σ) (y_f σ) (σ.2.1 72) (y_W1 (σ.1 3) (σ.2.1 71) (σ.2.1 75)) n1 n2 (σ.2.1 81)) (y_N2 n3 (y_hd σ) (y_nn σ) (y_f σ) (σ.2.1 72) (y_W1 (σ.1 3) (σ.2.1 71) (σ.2.1 75)) (y_W2 (σ.1 3) (σ.2.1 71) (σ.2.1 75)) n1 n2 (σ.2.1 81) (σ.2.1 82)) (σ.2.1 81) (τ_137.2.1 75) (τ_137.2.1 76)) → (∀ s : Int, 0 ≤ s → s < (σ.1 46) → ∀ p q : Int, 0 ≤ p → p ≤ 60 → 0 ≤ q → q ≤ 60 → ¬ (p = n1 ∧ q = n2) → τ_137.2.1 75 ((s * 61 + p) * 61 + q) = σ.2.1 75 ((s * 61 + p) * 61 + q) ∧ τ_137.2.1 76 ((s * 61 + p) * 61 + q) = σ.2.1 76 ((s * 61 + p) * 61 + q)) → (∀ s : Int, 0 ≤ s → s < (σ.1 46) → 0 ≤ τ_137.2.1 75 ((s * 61 + n1) * 61 + n2) ∧ τ_137.2.1 75 ((s * 61 + n1) * 61 + n2) ≤ 2) → (τ_137.2.2 3 = σ.2.2 3 ∧ τ_137.2.2 4 = σ.2.2 4) → (σ.2.1 81 u4_137 < n3) → (j_b (τ_137.2.2 5 u4_137) n2) → (∃ k : Nat, y_pt (σ.2.1 78) (σ.2.1 77) (y_hd σ (σ.2.1 81 u4_137)) (y_f σ (σ.2.1 81 u4_137)) k u5_137) → (1 ≤ u5_137 ∧ u5_137 < (σ.1 47)) → (u4_137 + (m_41 : Int) ≥ 30002) → (¬ y_FV (σ.2.1 78) (σ.2.1 77) u4_137) → (σ.2.1 83 u4_137 < n3) → (1 ≤ σ.2.1 78 u4_137) → P137 n1 n2 n3 u4_137 u5_137 τ_137 := by
        intro m_137
        induction m_137 with
        | zero =>
          intro u4_137 u5_137 τ_137 hm hT W3 W5 W45 W46 W47 W48 G71 G72 G73 G77 G78 G81 G82 G83 G84 G14 G16 G10 i137_1 i137_2 i137_3 i137_4 i137_5 i137_6 i137_7 i137_8 i137_9 i137_10 i137_11 i137_12 i137_13 i137_14
          have A71 : ∀ j, (-1) ≤ τ_137.2.1 71 j ∧ τ_137.2.1 71 j ≤ 99 := fun j => hT.2 71 j
          have A72 : ∀ j, 0 ≤ τ_137.2.1 72 j ∧ τ_137.2.1 72 j ≤ 999 := fun j => hT.2 72 j
          have A73 : ∀ j, (-1) ≤ τ_137.2.1 73 j ∧ τ_137.2.1 73 j ≤ 99 := fun j => hT.2 73 j
          have A75 : ∀ j, 0 ≤ τ_137.2.1 75 j ∧ τ_137.2.1 75 j ≤ 3 := fun j => hT.2 75 j
          have A76 : ∀ j, (-1) ≤ τ_137.2.1 76 j ∧ τ_137.2.1 76 j ≤ 1499 := fun j => hT.2 76 j
          have A77 : ∀ j, (-1001) ≤ τ_137.2.1 77 j ∧ τ_137.2.1 77 j ≤ 999 := fun j => hT.2 77 j
          have A78 : ∀ j, (-1) ≤ τ_137.2.1 78 j ∧ τ_137.2.1 78 j ≤ 30001 := fun j => hT.2 78 j
          have A81 : ∀ j, 0 ≤ τ_137.2.1 81 j ∧ τ_137.2.1 81 j ≤ 1500 := fun j => hT.2 81 j
          have A82 : ∀ j, 0 ≤ τ_137.2.1 82 j ∧ τ_137.2.1 82 j ≤ 1500 := fun j => hT.2 82 j
          have A83 : ∀ j, 0 ≤ τ_137.2.1 83 j ∧ τ_137.2.1 83 j ≤ 1500 := fun j => hT.2 83 j
          have A84 : ∀ j, 0 ≤ τ_137.2.1 84 j ∧ τ_137.2.1 84 j ≤ 1499 := fun j => hT.2 84 j
          have A14 : ∀ j, 0 ≤ τ_137.2.1 14 j ∧ τ_137.2.1 14 j ≤ 30000 := fun j => hT.2 14 j
          have A16 : ∀ j, 0 ≤ τ_137.2.1 16 j ∧ τ_137.2.1 16 j ≤ 999 := fun j => hT.2 16 j
          have A10 : ∀ j, (-1) ≤ τ_137.2.1 10 j ∧ τ_137.2.1 10 j ≤ 999 := fun j => hT.2 10 j
          have v3 : 0 ≤ τ_137.1 3 ∧ τ_137.1 3 ≤ 1000 := hT.1 3
          have v5 : 0 ≤ τ_137.1 5 ∧ τ_137.1 5 ≤ 1500 := hT.1 5
          have v45 : 0 ≤ τ_137.1 45 ∧ τ_137.1 45 ≤ 59 := hT.1 45
          have v46 : 0 ≤ τ_137.1 46 ∧ τ_137.1 46 ≤ 100 := hT.1 46
          have v47 : 0 ≤ τ_137.1 47 ∧ τ_137.1 47 ≤ 30001 := hT.1 47
          have v48 : 0 ≤ τ_137.1 48 ∧ τ_137.1 48 ≤ 1500 := hT.1 48
          exfalso; (first | omega | (simp only [st_s] <;> omega) | assumption | omega | fail)
        | succ m_137 ih_137 =>
          intro u4_137 u5_137 τ_137 hm_137 hT W3 W5 W45 W46 W47 W48 G71 G72 G73 G77 G78 G81 G82 G83 G84 G14 G16 G10 i137_1 i137_2 i137_3 i137_4 i137_5 i137_6 i137_7 i137_8 i137_9 i137_10 i137_11 i137_12 i137_13 i137_14
          have A71 : ∀ j, (-1) ≤ τ_137.2.1 71 j ∧ τ_137.2.1 71 j ≤ 99 := fun j => hT.2 71 j
          have A72 : ∀ j, 0 ≤ τ_137.2.1 72 j ∧ τ_137.2.1 72 j ≤ 999 := fun j => hT.2 72 j
          have A73 : ∀ j, (-1) ≤ τ_137.2.1 73 j ∧ τ_137.2.1 73 j ≤ 99 := fun j => hT.2 73 j
          have A75 : ∀ j, 0 ≤ τ_137.2.1 75 j ∧ τ_137.2.1 75 j ≤ 3 := fun j => hT.2 75 j
          have A76 : ∀ j, (-1) ≤ τ_137.2.1 76 j ∧ τ_137.2.1 76 j ≤ 1499 := fun j => hT.2 76 j
          have A77 : ∀ j, (-1001) ≤ τ_137.2.1 77 j ∧ τ_137.2.1 77 j ≤ 999 := fun j => hT.2 77 j
          have A78 : ∀ j, (-1) ≤ τ_137.2.1 78 j ∧ τ_137.2.1 78 j ≤ 30001 := fun j => hT.2 78 j
          have A81 : ∀ j, 0 ≤ τ_137.2.1 81 j ∧ τ_137.2.1 81 j ≤ 1500 := fun j => hT.2 81 j
          have A82 : ∀ j, 0 ≤ τ_137.2.1 82 j ∧ τ_137.2.1 82 j ≤ 1500 := fun j => hT.2 82 j
          have A83 : ∀ j, 0 ≤ τ_137.2.1 83 j ∧ τ_137.2.1 83 j ≤ 1500 := fun j => hT.2 83 j
          have A84 : ∀ j, 0 ≤ τ_137.2.1 84 j ∧ τ_137.2.1 84 j ≤ 1499 := fun j => hT.2 84 j
          have A14 : ∀ j, 0 ≤ τ_137.2.1 14 j ∧ τ_137.2.1 14 j ≤ 30000 := fun j => hT.2 14 j
          have A16 : ∀ j, 0 ≤ τ_137.2.1 16 j ∧ τ_137.2.1 16 j ≤ 999 := fun j => hT.2 16 j
          have A10 : ∀ j, (-1) ≤ τ_137.2.1 10 j ∧ τ_137.2.1 10 j ≤ 999 := fun j => hT.2 10 j
          have v3 : 0 ≤ τ_137.1 3 ∧ τ_137.1 3 ≤ 1000 := hT.1 3
          have v5 : 0 ≤ τ_137.1 5 ∧ τ_137.1 5 ≤ 1500 := hT.1 5
          have v45 : 0 ≤ τ_137.1 45 ∧ τ_137.1 45 ≤ 59 := hT.1 45
          have v46 : 0 ≤ τ_137.1 46 ∧ τ_137.1 46 ≤ 100 := hT.1 46
          have v47 : 0 ≤ τ_137.1 47 ∧ τ_137.1 47 ≤ 30001 := hT.1 47
          have v48 : 0 ≤ τ_137.1 48 ∧ τ_137.1 48 ≤ 1500 := hT.1 48
          obtain ⟨kk, kp⟩ := i137_9
          have nd := y_nD qT qF l5 i137_2 (by omega) (by omega) i137_1.1 i137_1.2 (Or.inr rfl) i137_7
          have rfi := (y_nP qT nR l5 i137_1.1 i137_1.2 i137_7).1
          have fi0 := ((qT.2.2.2 u4_137 i137_1.1 i137_1.2).1 (by omega)).1
          have hdi := (qd4 _ fi0.1 fi0.2.1 rfi.1).1
          have b61 := soS _ hdi.1 hdi.2.1 hdi.2.2
          have h16 := hTσ.2 16 (σ.2.1 14 (σ.2.1 81 u4_137))
          have hd9 : y_hd σ (σ.2.1 81 u4_137) ≤ 999 := h16.2
          have na : (y_N1 n3 (y_hd σ) (y_nn σ) (y_f σ) (σ.2.1 72) (y_W1 (σ.1 3) (σ.2.1 71) (σ.2.1 75)) n1 n2 (σ.2.1 81)) u4_137 (y_hd σ (σ.2.1 81 u4_137)) := ⟨i137_7, rfl, nd.1.mp i137_8⟩
          have ux := qT.1 u5_137 i137_10.1 i137_10.2
          refine h137 n1 n2 n3 u4_137 u5_137 τ_137 ?_
          refine ⟨_, K_X13_isSortNode hT (show 0 ≤ u5_137 from by (first | omega | (simp only [st_s] <;> omega) | assumption | omega | fail)) (show u5_137 < 30002 from by (first | omega | (simp only [st_s] <;> omega) | assumption | omega | fail)), ?_⟩
          intro x55 r_x55 hq
          obtain ⟨q54_1, q54_2⟩ := hq
          replace q54_1 : 0 ≤ x55 ∧ x55 ≤ 1 := q54_1
          replace q54_2 : ¬ x55 = 0 ↔ τ_137.2.1 78 u5_137 = 0 := q54_2
          rw [G78] at q54_2
          refine ⟨fun c57 => ?_, fun c57 => ?_⟩
          ·
            have kz : ¬ x55 = 0 → σ.2.1 77 u5_137 = y_hd σ (σ.2.1 81 u4_137) := fun z => by (rcases kk with _ | k; (exact kp.2.2); (have w := y_pt_1 k _ kp.2.2; have v := q54_2.mp z; omega))
            have ky : x55 = 0 → ∃ k : Nat, y_pt (σ.2.1 78) (σ.2.1 77) (y_hd σ (σ.2.1 81 u4_137)) (y_f σ (σ.2.1 81 u4_137)) k (σ.2.1 78 u5_137) := fun z => by (rcases kk with _ | k; (exact absurd (q54_2.mpr kp.2.1) (by omega)); (exact ⟨k, kp.2.2⟩))
            refine ⟨(show 0 ≤ u5_137 ∧ u5_137 < 30002 from by (first | omega | (simp only [st_s] <;> omega) | assumption | omega | fail)), ?_⟩
            intro x59 r_x59 e_x59
            have b_x59 : (-1001) ≤ x59 ∧ x59 ≤ 999 := by rw [e_x59]; exact hT.2 77 _
            rw [G77, kz (by assumption)] at e_x59
            refine ⟨(show 0 ≤ x59 ∧ x59 < 1001 from by (first | omega | (simp only [st_s] <;> omega) | assumption | omega | fail)), ?_⟩
            intro x61 r_x61 e_x61
            have b_x61 : (-1) ≤ x61 ∧ x61 ≤ 99 := by rw [e_x61]; exact hT.2 71 _
            rw [G71, e_x59] at e_x61
            refine ⟨_, K_X13_wayAt hT (show 0 ≤ x61 ∧ x61 ≤ 99 from by (first | omega | (simp only [st_s] <;> omega) | assumption | omega | fail)) (show 0 ≤ n1 ∧ n1 ≤ 60 from by (first | omega | (simp only [st_s] <;> omega) | assumption | omega | fail)) (show 0 ≤ n2 ∧ n2 ≤ 60 from by (first | omega | (simp only [st_s] <;> omega) | assumption | omega | fail)), ?_⟩
            intro x63 r_x63 hq
            obtain ⟨q62_1, q62_2⟩ := hq
            replace q62_1 : x63 = (x61 * 61 + n1) * 61 + n2 := q62_1
            replace q62_2 : 0 ≤ x63 ∧ x63 < 372100 := q62_2
            refine ⟨(show 0 ≤ u4_137 ∧ u4_137 < 30002 from by (first | omega | (simp only [st_s] <;> omega) | assumption | omega | fail)), ?_⟩
            intro x66 e_x66
            refine ⟨fun c67 => ?_, fun c67 => ?_⟩
            ·
              refine h210 _ _ _ _ _ _ _ ?_
              refine ⟨(show 0 ≤ x63 ∧ x63 < 372100 from by (first | omega | (simp only [st_s] <;> omega) | assumption | omega | fail)), ?_⟩
              intro x101 r_x101 e_x101
              have b_x101 : (-1) ≤ x101 ∧ x101 ≤ 1499 := by rw [e_x101]; exact hT.2 76 _
              refine ⟨fun c102 => ?_, fun c102 => ?_⟩
              ·
                intro x103 r_x103 e_x103
                have b_x103 : (-1) ≤ x103 ∧ x103 ≤ 1499 := by rw [e_x103]; exact hT.2 76 _
                refine h246 _ _ _ _ _ _ _ _ _ ?_
                refine ⟨(show 0 ≤ x63 ∧ x63 < 372100 from by (first | omega | (simp only [st_s] <;> omega) | assumption | omega | fail)), ?_⟩
                replace hT := mT_a (k := 76) (j := x63) hT (show (-1 : Int) ≤ x103 ∧ x103 ≤ 1499 from by (first | omega | (simp only [st_s] <;> omega) | assumption | omega | fail))
                refine ⟨(show 0 ≤ x63 ∧ x63 < 372100 from by (first | omega | (simp only [st_s] <;> omega) | assumption | omega | fail)), ?_⟩
                intro x110 r_x110 e_x110
                have b_x110 : 0 ≤ x110 ∧ x110 ≤ 3 := by rw [e_x110]; exact hT.2 75 _
                refine ⟨(⟨by (first | omega | (simp only [st_s] <;> omega) | assumption | omega | fail), by (first | omega | (simp only [st_s] <;> omega) | assumption | omega | fail)⟩ : rg (x110 + 2)), ?_⟩
                refine ⟨_, K_X13_capped hT, ?_⟩
                intro x113 r_x113 hq
                have q112_1 := hq
                replace q112_1 : ((x110 + 2) ≤ 2 ∧ x113 = (x110 + 2)) ∨ (2 < (x110 + 2) ∧ x113 = 2) := q112_1
                have hm : ((2 : Int) = 2 ∧ (y_N2 n3 (y_hd σ) (y_nn σ) (y_f σ) (σ.2.1 72) (y_W1 (σ.1 3) (σ.2.1 71) (σ.2.1 75)) (y_W2 (σ.1 3) (σ.2.1 71) (σ.2.1 75)) n1 n2 (σ.2.1 81) (σ.2.1 82)) u4_137 (y_hd σ (σ.2.1 81 u4_137))) ∨ ((2 : Int) = 1 ∧ ¬ (y_N2 n3 (y_hd σ) (y_nn σ) (y_f σ) (σ.2.1 72) (y_W1 (σ.1 3) (σ.2.1 71) (σ.2.1 75)) (y_W2 (σ.1 3) (σ.2.1 71) (σ.2.1 75)) n1 n2 (σ.2.1 81) (σ.2.1 82)) u4_137 (y_hd σ (σ.2.1 81 u4_137))) := by (first | exact Or.inl ⟨rfl, na, Or.inr (by omega)⟩ | exact Or.inl ⟨rfl, na, Or.inl (nd.2.mp (by rw [← e_x66]; exact (y_sr1 (by omega) (by omega)).mp (by assumption)))⟩ | exact Or.inr ⟨rfl, fun h => h.2.elim (fun w => absurd ((y_sr1 (x := x66) (k := n2) (by omega) (by omega)).mpr (by rw [e_x66]; exact nd.2.mpr w)) (by assumption)) (fun w => by omega)⟩)
                have hw : (x110 + 2 ≤ 2 ∧ x113 = x110 + 2) ∨ (2 < x110 + 2 ∧ x113 = 2) := q112_1
                rw [q62_1, e_x61] at e_x110
                replace hT := mT_a (k := 75) (j := x63) hT (show (0 : Int) ≤ x113 ∧ x113 ≤ 3 from by (first | omega | (simp only [st_s] <;> omega) | assumption | omega | fail))
                refine ⟨(⟨by (first | omega | (simp only [st_s] <;> omega) | assumption | omega | fail), by (first | omega | (simp only [st_s] <;> omega) | assumption | omega | fail)⟩ : rg (u4_137 + 1)), ?_⟩
                exact ih_41 _ _ (show (30002 - (u4_137 + 1) : Int) < ((m_41 : Nat) : Int) from by ((first | omega | (simp only [st_s] <;> omega) | assumption | omega | fail))) hT (show τ_137.1 3 = σ.1 3 from by first | exact W3 | omega) (show τ_137.1 5 = σ.1 5 from by first | exact W5 | omega) (show τ_137.1 45 = σ.1 45 from by first | exact W45 | omega) (show τ_137.1 46 = σ.1 46 from by first | exact W46 | omega) (show τ_137.1 47 = σ.1 47 from by first | exact W47 | omega) (show τ_137.1 48 = σ.1 48 from by first | exact W48 | omega) G71 G72 G73 G77 G78 G81 G82 G83 G84 G14 G16 G10 (show 1 ≤ (u4_137 + 1) ∧ (u4_137 + 1) ≤ (σ.1 47) from by (first | omega | (simp only [st_s] <;> omega) | assumption | omega | fail)) (show y_Fr (σ.1 47) n3 n1 n2 (fun z => z < (u4_137 + 1) ∧ ¬ y_FV (σ.2.1 78) (σ.2.1 77) z) (σ.2.1 72) (y_W1 (σ.1 3) (σ.2.1 71) (σ.2.1 75)) (y_W2 (σ.1 3) (σ.2.1 71) (σ.2.1 75)) (σ.2.1 78) (σ.2.1 77) (σ.2.1 83) (τ_137.2.2 5) (τ_137.2.2 6) from by (first | exact y_Fr_d p7 (fun x a b c d => ⟨fun z => z.elim, fun z => by have := z.1; omega⟩) p2 | exact y_Fr_d i41_2 (fun x a b c d => y_D1 (fun z => by rw [z] at c d; omega)) p2 | exact y_Fr_d i41_2 (fun x a b c d => y_D1 (fun z => by rw [z]; exact q31_2.mp (by assumption))) p2 | exact y_Fr_d fs (fun x a b c d => y_D2 fv) p2 | exact y_Fr_d i137_2 (fun x a b c d => y_D2 i137_12) p2 | exact y_sk p8 v21 wr i41_2 p1 p2 p3 (by omega) i41_1.1 (by omega) (by omega) (by omega) (by omega) ((qT.2.2.1 u4_41 i41_1.1 (by omega)).2.2 (by omega)) (y_sp qT tyR i41_1.1 (by omega) (by omega)) (by rw [← e_x26, ← e_x28]; assumption) (y_BA qT v21 i41_2 i41_1.1 (by omega) (by omega) (by omega)) | fail)) (show y_B (σ.1 3) n1 n2 (u4_137 + 1) (σ.2.1 71) (fun t => y_L (y_ls (σ.1 3) (σ.2.1 71) (σ.2.1 73)) t n1 n2) (y_N1 n3 (y_hd σ) (y_nn σ) (y_f σ) (σ.2.1 72) (y_W1 (σ.1 3) (σ.2.1 71) (σ.2.1 75)) n1 n2 (σ.2.1 81)) (y_N2 n3 (y_hd σ) (y_nn σ) (y_f σ) (σ.2.1 72) (y_W1 (σ.1 3) (σ.2.1 71) (σ.2.1 75)) (y_W2 (σ.1 3) (σ.2.1 71) (σ.2.1 75)) n1 n2 (σ.2.1 81) (σ.2.1 82)) (σ.2.1 81) ((st (τ_137.2.1 75) x63 x113)) ((st (τ_137.2.1 76) x63 x103)) from by (first | exact y_B_0 p6 soS inj hlf (Or.inl ⟨by omega, rfl⟩) | exact y_B_0 p6 soS inj hlf (Or.inr ⟨by omega, by rw [show x11 + 1 = 1 from by omega, q7_1, ← e_x6]⟩) | exact y_B_n i41_3 (y_nA qF l5 i41_1.1 (by omega) (by omega)) n21 | exact y_B_n i41_3 (y_nB qT nR l5 i41_1.1 (by omega) (q21_2.mp (by assumption))) n21 | exact y_B_n i41_3 (y_nC qT nR nuR l5 i41_1.1 (by omega) (q31_2.mp (by assumption))) n21 | (rw [g75_τ37, g76_τ37]; exact y_B_n i41_3 (fun t h => by (have w := h.1; omega)) n21) | (rw [g75_τ37, g76_τ37]; exact y_B_n i41_3 (fun t h => absurd ((y_sr1 (x := x41) (k := n2) (by omega) (by omega)).mpr (by rw [e_x41]; exact (y_nD qT qF l5 fs (by omega) (by omega) i41_1.1 (by omega) (Or.inr rfl) h.1).1.mpr h.2.2)) (by assumption)) n21) | exact y_B_n i41_3 (nsk (by assumption)) n21 | (rw [q62_1, e_x61]; exact y_B_y i137_3 i137_1.1 hdi.1 hdi.2.1 hdi.2.2 inj na (fun t h => h.2.1.symm) n21 hm (by rw [← e_x110]; exact hw) (by first | exact Or.inl ⟨by (rw [← e_x61, ← q62_1, ← e_x101]; assumption), by (rw [← e_x61, ← q62_1]; exact e_x103)⟩ | exact Or.inr ⟨by (rw [← e_x61, ← q62_1, ← e_x101]; assumption), e_x105⟩)) | fail)) (show ∀ s : Int, 0 ≤ s → s < (σ.1 46) → ∀ p q : Int, 0 ≤ p → p ≤ 60 → 0 ≤ q → q ≤ 60 → ¬ (p = n1 ∧ q = n2) → (st (τ_137.2.1 75) x63 x113) ((s * 61 + p) * 61 + q) = σ.2.1 75 ((s * 61 + p) * 61 + q) ∧ (st (τ_137.2.1 76) x63 x103) ((s * 61 + p) * 61 + q) = σ.2.1 76 ((s * 61 + p) * 61 + q) from by (first | exact i41_4 | (intro s a b p q c d e f g; exact ⟨rfl, rfl⟩) | (rw [g75_τ37, g76_τ37]; exact i41_4) | (intro s a b p q c d e f g; have ne : (s * 61 + p) * 61 + q ≠ (x6 * 61 + n1) * 61 + n2 := (fun z => by (have s6 : s = x6 := (by omega); rw [s6] at z; exact g ⟨by omega, by omega⟩)); rw [q7_1, st_n _ _ ne]; exact ⟨rfl, rfl⟩) | (intro s a b p q c d e f g; rw [q62_1, st_n _ _ (by omega), st_n _ _ (by omega)]; exact i137_4 s a b p q c d e f g) | fail)) (show ∀ s : Int, 0 ≤ s → s < (σ.1 46) → 0 ≤ (st (τ_137.2.1 75) x63 x113) ((s * 61 + n1) * 61 + n2) ∧ (st (τ_137.2.1 75) x63 x113) ((s * 61 + n1) * 61 + n2) ≤ 2 from by (first | exact i41_5 | (intro s a b; have w := (p6 s a b).1; omega) | (rw [g75_τ37]; exact i41_5) | (intro s a b; have w := (p6 s a b).1; by_cases z : s = x6; (rw [q7_1, z, st_s]; rw [z, ← q7_1, ← e_x11] at w; omega); (rw [q7_1, st_n _ _ (by omega)]; omega)) | (intro s a b; by_cases z : s = x61; (rw [q62_1, z, st_s]; omega); (rw [q62_1, st_n _ _ (by omega)]; exact i137_5 s a b)) | fail)) (show τ_137.2.2 3 = σ.2.2 3 ∧ τ_137.2.2 4 = σ.2.2 4 from by (first | exact i41_6 | exact ⟨rfl, rfl⟩ | exact i137_6 | (rw [hf_τ37.2.2 3 (by decide), hf_τ37.2.2 4 (by decide)]; exact i41_6) | fail))
              ·
                refine ⟨(show 0 ≤ u4_137 ∧ u4_137 < 30002 from by (first | omega | (simp only [st_s] <;> omega) | assumption | omega | fail)), ?_⟩
                intro x105 r_x105 e_x105
                have b_x105 : 0 ≤ x105 ∧ x105 ≤ 1500 := by rw [e_x105]; exact hT.2 81 _
                rw [G81] at e_x105
                refine h246 _ _ _ _ _ _ _ _ _ ?_
                refine ⟨(show 0 ≤ x63 ∧ x63 < 372100 from by (first | omega | (simp only [st_s] <;> omega) | assumption | omega | fail)), ?_⟩
                replace hT := mT_a (k := 76) (j := x63) hT (show (-1 : Int) ≤ x105 ∧ x105 ≤ 1499 from by (first | omega | (simp only [st_s] <;> omega) | assumption | omega | fail))
                refine ⟨(show 0 ≤ x63 ∧ x63 < 372100 from by (first | omega | (simp only [st_s] <;> omega) | assumption | omega | fail)), ?_⟩
                intro x110 r_x110 e_x110
                have b_x110 : 0 ≤ x110 ∧ x110 ≤ 3 := by rw [e_x110]; exact hT.2 75 _
                refine ⟨(⟨by (first | omega | (simp only [st_s] <;> omega) | assumption | omega | fail), by (first | omega | (simp only [st_s] <;> omega) | assumption | omega | fail)⟩ : rg (x110 + 2)), ?_⟩
                refine ⟨_, K_X13_capped hT, ?_⟩
                intro x113 r_x113 hq
                have q112_1 := hq
                replace q112_1 : ((x110 + 2) ≤ 2 ∧ x113 = (x110 + 2)) ∨ (2 < (x110 + 2) ∧ x113 = 2) := q112_1
                have hm : ((2 : Int) = 2 ∧ (y_N2 n3 (y_hd σ) (y_nn σ) (y_f σ) (σ.2.1 72) (y_W1 (σ.1 3) (σ.2.1 71) (σ.2.1 75)) (y_W2 (σ.1 3) (σ.2.1 71) (σ.2.1 75)) n1 n2 (σ.2.1 81) (σ.2.1 82)) u4_137 (y_hd σ (σ.2.1 81 u4_137))) ∨ ((2 : Int) = 1 ∧ ¬ (y_N2 n3 (y_hd σ) (y_nn σ) (y_f σ) (σ.2.1 72) (y_W1 (σ.1 3) (σ.2.1 71) (σ.2.1 75)) (y_W2 (σ.1 3) (σ.2.1 71) (σ.2.1 75)) n1 n2 (σ.2.1 81) (σ.2.1 82)) u4_137 (y_hd σ (σ.2.1 81 u4_137))) := by (first | exact Or.inl ⟨rfl, na, Or.inr (by omega)⟩ | exact Or.inl ⟨rfl, na, Or.inl (nd.2.mp (by rw [← e_x66]; exact (y_sr1 (by omega) (by omega)).mp (by assumption)))⟩ | exact Or.inr ⟨rfl, fun h => h.2.elim (fun w => absurd ((y_sr1 (x := x66) (k := n2) (by omega) (by omega)).mpr (by rw [e_x66]; exact nd.2.mpr w)) (by assumption)) (fun w => by omega)⟩)
                have hw : (x110 + 2 ≤ 2 ∧ x113 = x110 + 2) ∨ (2 < x110 + 2 ∧ x113 = 2) := q112_1
                rw [q62_1, e_x61] at e_x110
                replace hT := mT_a (k := 75) (j := x63) hT (show (0 : Int) ≤ x113 ∧ x113 ≤ 3 from by (first | omega | (simp only [st_s] <;> omega) | assumption | omega | fail))
                refine ⟨(⟨by (first | omega | (simp only [st_s] <;> omega) | assumption | omega | fail), by (first | omega | (simp only [st_s] <;> omega) | assumption | omega | fail)⟩ : rg (u4_137 + 1)), ?_⟩
                exact ih_41 _ _ (show (30002 - (u4_137 + 1) : Int) < ((m_41 : Nat) : Int) from by ((first | omega | (simp only [st_s] <;> omega) | assumption | omega | fail))) hT (show τ_137.1 3 = σ.1 3 from by first | exact W3 | omega) (show τ_137.1 5 = σ.1 5 from by first | exact W5 | omega) (show τ_137.1 45 = σ.1 45 from by first | exact W45 | omega) (show τ_137.1 46 = σ.1 46 from by first | exact W46 | omega) (show τ_137.1 47 = σ.1 47 from by first | exact W47 | omega) (show τ_137.1 48 = σ.1 48 from by first | exact W48 | omega) G71 G72 G73 G77 G78 G81 G82 G83 G84 G14 G16 G10 (show 1 ≤ (u4_137 + 1) ∧ (u4_137 + 1) ≤ (σ.1 47) from by (first | omega | (simp only [st_s] <;> omega) | assumption | omega | fail)) (show y_Fr (σ.1 47) n3 n1 n2 (fun z => z < (u4_137 + 1) ∧ ¬ y_FV (σ.2.1 78) (σ.2.1 77) z) (σ.2.1 72) (y_W1 (σ.1 3) (σ.2.1 71) (σ.2.1 75)) (y_W2 (σ.1 3) (σ.2.1 71) (σ.2.1 75)) (σ.2.1 78) (σ.2.1 77) (σ.2.1 83) (τ_137.2.2 5) (τ_137.2.2 6) from by (first | exact y_Fr_d p7 (fun x a b c d => ⟨fun z => z.elim, fun z => by have := z.1; omega⟩) p2 | exact y_Fr_d i41_2 (fun x a b c d => y_D1 (fun z => by rw [z] at c d; omega)) p2 | exact y_Fr_d i41_2 (fun x a b c d => y_D1 (fun z => by rw [z]; exact q31_2.mp (by assumption))) p2 | exact y_Fr_d fs (fun x a b c d => y_D2 fv) p2 | exact y_Fr_d i137_2 (fun x a b c d => y_D2 i137_12) p2 | exact y_sk p8 v21 wr i41_2 p1 p2 p3 (by omega) i41_1.1 (by omega) (by omega) (by omega) (by omega) ((qT.2.2.1 u4_41 i41_1.1 (by omega)).2.2 (by omega)) (y_sp qT tyR i41_1.1 (by omega) (by omega)) (by rw [← e_x26, ← e_x28]; assumption) (y_BA qT v21 i41_2 i41_1.1 (by omega) (by omega) (by omega)) | fail)) (show y_B (σ.1 3) n1 n2 (u4_137 + 1) (σ.2.1 71) (fun t => y_L (y_ls (σ.1 3) (σ.2.1 71) (σ.2.1 73)) t n1 n2) (y_N1 n3 (y_hd σ) (y_nn σ) (y_f σ) (σ.2.1 72) (y_W1 (σ.1 3) (σ.2.1 71) (σ.2.1 75)) n1 n2 (σ.2.1 81)) (y_N2 n3 (y_hd σ) (y_nn σ) (y_f σ) (σ.2.1 72) (y_W1 (σ.1 3) (σ.2.1 71) (σ.2.1 75)) (y_W2 (σ.1 3) (σ.2.1 71) (σ.2.1 75)) n1 n2 (σ.2.1 81) (σ.2.1 82)) (σ.2.1 81) ((st (τ_137.2.1 75) x63 x113)) ((st (τ_137.2.1 76) x63 x105)) from by (first | exact y_B_0 p6 soS inj hlf (Or.inl ⟨by omega, rfl⟩) | exact y_B_0 p6 soS inj hlf (Or.inr ⟨by omega, by rw [show x11 + 1 = 1 from by omega, q7_1, ← e_x6]⟩) | exact y_B_n i41_3 (y_nA qF l5 i41_1.1 (by omega) (by omega)) n21 | exact y_B_n i41_3 (y_nB qT nR l5 i41_1.1 (by omega) (q21_2.mp (by assumption))) n21 | exact y_B_n i41_3 (y_nC qT nR nuR l5 i41_1.1 (by omega) (q31_2.mp (by assumption))) n21 | (rw [g75_τ37, g76_τ37]; exact y_B_n i41_3 (fun t h => by (have w := h.1; omega)) n21) | (rw [g75_τ37, g76_τ37]; exact y_B_n i41_3 (fun t h => absurd ((y_sr1 (x := x41) (k := n2) (by omega) (by omega)).mpr (by rw [e_x41]; exact (y_nD qT qF l5 fs (by omega) (by omega) i41_1.1 (by omega) (Or.inr rfl) h.1).1.mpr h.2.2)) (by assumption)) n21) | exact y_B_n i41_3 (nsk (by assumption)) n21 | (rw [q62_1, e_x61]; exact y_B_y i137_3 i137_1.1 hdi.1 hdi.2.1 hdi.2.2 inj na (fun t h => h.2.1.symm) n21 hm (by rw [← e_x110]; exact hw) (by first | exact Or.inl ⟨by (rw [← e_x61, ← q62_1, ← e_x101]; assumption), by (rw [← e_x61, ← q62_1]; exact e_x103)⟩ | exact Or.inr ⟨by (rw [← e_x61, ← q62_1, ← e_x101]; assumption), e_x105⟩)) | fail)) (show ∀ s : Int, 0 ≤ s → s < (σ.1 46) → ∀ p q : Int, 0 ≤ p → p ≤ 60 → 0 ≤ q → q ≤ 60 → ¬ (p = n1 ∧ q = n2) → (st (τ_137.2.1 75) x63 x113) ((s * 61 + p) * 61 + q) = σ.2.1 75 ((s * 61 + p) * 61 + q) ∧ (st (τ_137.2.1 76) x63 x105) ((s * 61 + p) * 61 + q) = σ.2.1 76 ((s * 61 + p) * 61 + q) from by (first | exact i41_4 | (intro s a b p q c d e f g; exact ⟨rfl, rfl⟩) | (rw [g75_τ37, g76_τ37]; exact i41_4) | (intro s a b p q c d e f g; have ne : (s * 61 + p) * 61 + q ≠ (x6 * 61 + n1) * 61 + n2 := (fun z => by (have s6 : s = x6 := (by omega); rw [s6] at z; exact g ⟨by omega, by omega⟩)); rw [q7_1, st_n _ _ ne]; exact ⟨rfl, rfl⟩) | (intro s a b p q c d e f g; rw [q62_1, st_n _ _ (by omega), st_n _ _ (by omega)]; exact i137_4 s a b p q c d e f g) | fail)) (show ∀ s : Int, 0 ≤ s → s < (σ.1 46) → 0 ≤ (st (τ_137.2.1 75) x63 x113) ((s * 61 + n1) * 61 + n2) ∧ (st (τ_137.2.1 75) x63 x113) ((s * 61 + n1) * 61 + n2) ≤ 2 from by (first | exact i41_5 | (intro s a b; have w := (p6 s a b).1; omega) | (rw [g75_τ37]; exact i41_5) | (intro s a b; have w := (p6 s a b).1; by_cases z : s = x6; (rw [q7_1, z, st_s]; rw [z, ← q7_1, ← e_x11] at w; omega); (rw [q7_1, st_n _ _ (by omega)]; omega)) | (intro s a b; by_cases z : s = x61; (rw [q62_1, z, st_s]; omega); (rw [q62_1, st_n _ _ (by omega)]; exact i137_5 s a b)) | fail)) (show τ_137.2.2 3 = σ.2.2 3 ∧ τ_137.2.2 4 = σ.2.2 4 from by (first | exact i41_6 | exact ⟨rfl, rfl⟩ | exact i137_6 | (rw [hf_τ37.2.2 3 (by decide), hf_τ37.2.2 4 (by decide)]; exact i41_6) | fail))
            ·
              intro x68 r_x68 e_x68
              have b_x68 : 0 ≤ x68 ∧ x68 ≤ 1500 := by rw [e_x68]; exact hT.2 82 _
              rw [G82] at e_x68
              refine ⟨fun c69 => ?_, fun c69 => ?_⟩
              ·
                refine h210 _ _ _ _ _ _ _ ?_
                refine ⟨(show 0 ≤ x63 ∧ x63 < 372100 from by (first | omega | (simp only [st_s] <;> omega) | assumption | omega | fail)), ?_⟩
                intro x101 r_x101 e_x101
                have b_x101 : (-1) ≤ x101 ∧ x101 ≤ 1499 := by rw [e_x101]; exact hT.2 76 _
                refine ⟨fun c102 => ?_, fun c102 => ?_⟩
                ·
                  intro x103 r_x103 e_x103
                  have b_x103 : (-1) ≤ x103 ∧ x103 ≤ 1499 := by rw [e_x103]; exact hT.2 76 _
                  refine h246 _ _ _ _ _ _ _ _ _ ?_
                  refine ⟨(show 0 ≤ x63 ∧ x63 < 372100 from by (first | omega | (simp only [st_s] <;> omega) | assumption | omega | fail)), ?_⟩
                  replace hT := mT_a (k := 76) (j := x63) hT (show (-1 : Int) ≤ x103 ∧ x103 ≤ 1499 from by (first | omega | (simp only [st_s] <;> omega) | assumption | omega | fail))
                  refine ⟨(show 0 ≤ x63 ∧ x63 < 372100 from by (first | omega | (simp only [st_s] <;> omega) | assumption | omega | fail)), ?_⟩
                  intro x110 r_x110 e_x110
                  have b_x110 : 0 ≤ x110 ∧ x110 ≤ 3 := by rw [e_x110]; exact hT.2 75 _
                  refine ⟨(⟨by (first | omega | (simp only [st_s] <;> omega) | assumption | omega | fail), by (first | omega | (simp only [st_s] <;> omega) | assumption | omega | fail)⟩ : rg (x110 + 1)), ?_⟩
                  refine ⟨_, K_X13_capped hT, ?_⟩
                  intro x113 r_x113 hq
                  have q112_1 := hq
                  replace q112_1 : ((x110 + 1) ≤ 2 ∧ x113 = (x110 + 1)) ∨ (2 < (x110 + 1) ∧ x113 = 2) := q112_1
                  have hm : ((1 : Int) = 2 ∧ (y_N2 n3 (y_hd σ) (y_nn σ) (y_f σ) (σ.2.1 72) (y_W1 (σ.1 3) (σ.2.1 71) (σ.2.1 75)) (y_W2 (σ.1 3) (σ.2.1 71) (σ.2.1 75)) n1 n2 (σ.2.1 81) (σ.2.1 82)) u4_137 (y_hd σ (σ.2.1 81 u4_137))) ∨ ((1 : Int) = 1 ∧ ¬ (y_N2 n3 (y_hd σ) (y_nn σ) (y_f σ) (σ.2.1 72) (y_W1 (σ.1 3) (σ.2.1 71) (σ.2.1 75)) (y_W2 (σ.1 3) (σ.2.1 71) (σ.2.1 75)) n1 n2 (σ.2.1 81) (σ.2.1 82)) u4_137 (y_hd σ (σ.2.1 81 u4_137))) := by (first | exact Or.inl ⟨rfl, na, Or.inr (by omega)⟩ | exact Or.inl ⟨rfl, na, Or.inl (nd.2.mp (by rw [← e_x66]; exact (y_sr1 (by omega) (by omega)).mp (by assumption)))⟩ | exact Or.inr ⟨rfl, fun h => h.2.elim (fun w => absurd ((y_sr1 (x := x66) (k := n2) (by omega) (by omega)).mpr (by rw [e_x66]; exact nd.2.mpr w)) (by assumption)) (fun w => by omega)⟩)
                  have hw : (x110 + 1 ≤ 2 ∧ x113 = x110 + 1) ∨ (2 < x110 + 1 ∧ x113 = 2) := q112_1
                  rw [q62_1, e_x61] at e_x110
                  replace hT := mT_a (k := 75) (j := x63) hT (show (0 : Int) ≤ x113 ∧ x113 ≤ 3 from by (first | omega | (simp only [st_s] <;> omega) | assumption | omega | fail))
                  refine ⟨(⟨by (first | omega | (simp only [st_s] <;> omega) | assumption | omega | fail), by (first | omega | (simp only [st_s] <;> omega) | assumption | omega | fail)⟩ : rg (u4_137 + 1)), ?_⟩
                  exact ih_41 _ _ (show (30002 - (u4_137 + 1) : Int) < ((m_41 : Nat) : Int) from by ((first | omega | (simp only [st_s] <;> omega) | assumption | omega | fail))) hT (show τ_137.1 3 = σ.1 3 from by first | exact W3 | omega) (show τ_137.1 5 = σ.1 5 from by first | exact W5 | omega) (show τ_137.1 45 = σ.1 45 from by first | exact W45 | omega) (show τ_137.1 46 = σ.1 46 from by first | exact W46 | omega) (show τ_137.1 47 = σ.1 47 from by first | exact W47 | omega) (show τ_137.1 48 = σ.1 48 from by first | exact W48 | omega) G71 G72 G73 G77 G78 G81 G82 G83 G84 G14 G16 G10 (show 1 ≤ (u4_137 + 1) ∧ (u4_137 + 1) ≤ (σ.1 47) from by (first | omega | (simp only [st_s] <;> omega) | assumption | omega | fail)) (show y_Fr (σ.1 47) n3 n1 n2 (fun z => z < (u4_137 + 1) ∧ ¬ y_FV (σ.2.1 78) (σ.2.1 77) z) (σ.2.1 72) (y_W1 (σ.1 3) (σ.2.1 71) (σ.2.1 75)) (y_W2 (σ.1 3) (σ.2.1 71) (σ.2.1 75)) (σ.2.1 78) (σ.2.1 77) (σ.2.1 83) (τ_137.2.2 5) (τ_137.2.2 6) from by (first | exact y_Fr_d p7 (fun x a b c d => ⟨fun z => z.elim, fun z => by have := z.1; omega⟩) p2 | exact y_Fr_d i41_2 (fun x a b c d => y_D1 (fun z => by rw [z] at c d; omega)) p2 | exact y_Fr_d i41_2 (fun x a b c d => y_D1 (fun z => by rw [z]; exact q31_2.mp (by assumption))) p2 | exact y_Fr_d fs (fun x a b c d => y_D2 fv) p2 | exact y_Fr_d i137_2 (fun x a b c d => y_D2 i137_12) p2 | exact y_sk p8 v21 wr i41_2 p1 p2 p3 (by omega) i41_1.1 (by omega) (by omega) (by omega) (by omega) ((qT.2.2.1 u4_41 i41_1.1 (by omega)).2.2 (by omega)) (y_sp qT tyR i41_1.1 (by omega) (by omega)) (by rw [← e_x26, ← e_x28]; assumption) (y_BA qT v21 i41_2 i41_1.1 (by omega) (by omega) (by omega)) | fail)) (show y_B (σ.1 3) n1 n2 (u4_137 + 1) (σ.2.1 71) (fun t => y_L (y_ls (σ.1 3) (σ.2.1 71) (σ.2.1 73)) t n1 n2) (y_N1 n3 (y_hd σ) (y_nn σ) (y_f σ) (σ.2.1 72) (y_W1 (σ.1 3) (σ.2.1 71) (σ.2.1 75)) n1 n2 (σ.2.1 81)) (y_N2 n3 (y_hd σ) (y_nn σ) (y_f σ) (σ.2.1 72) (y_W1 (σ.1 3) (σ.2.1 71) (σ.2.1 75)) (y_W2 (σ.1 3) (σ.2.1 71) (σ.2.1 75)) n1 n2 (σ.2.1 81) (σ.2.1 82)) (σ.2.1 81) ((st (τ_137.2.1 75) x63 x113)) ((st (τ_137.2.1 76) x63 x103)) from by (first | exact y_B_0 p6 soS inj hlf (Or.inl ⟨by omega, rfl⟩) | exact y_B_0 p6 soS inj hlf (Or.inr ⟨by omega, by rw [show x11 + 1 = 1 from by omega, q7_1, ← e_x6]⟩) | exact y_B_n i41_3 (y_nA qF l5 i41_1.1 (by omega) (by omega)) n21 | exact y_B_n i41_3 (y_nB qT nR l5 i41_1.1 (by omega) (q21_2.mp (by assumption))) n21 | exact y_B_n i41_3 (y_nC qT nR nuR l5 i41_1.1 (by omega) (q31_2.mp (by assumption))) n21 | (rw [g75_τ37, g76_τ37]; exact y_B_n i41_3 (fun t h => by (have w := h.1; omega)) n21) | (rw [g75_τ37, g76_τ37]; exact y_B_n i41_3 (fun t h => absurd ((y_sr1 (x := x41) (k := n2) (by omega) (by omega)).mpr (by rw [e_x41]; exact (y_nD qT qF l5 fs (by omega) (by omega) i41_1.1 (by omega) (Or.inr rfl) h.1).1.mpr h.2.2)) (by assumption)) n21) | exact y_B_n i41_3 (nsk (by assumption)) n21 | (rw [q62_1, e_x61]; exact y_B_y i137_3 i137_1.1 hdi.1 hdi.2.1 hdi.2.2 inj na (fun t h => h.2.1.symm) n21 hm (by rw [← e_x110]; exact hw) (by first | exact Or.inl ⟨by (rw [← e_x61, ← q62_1, ← e_x101]; assumption), by (rw [← e_x61, ← q62_1]; exact e_x103)⟩ | exact Or.inr ⟨by (rw [← e_x61, ← q62_1, ← e_x101]; assumption), e_x105⟩)) | fail)) (show ∀ s : Int, 0 ≤ s → s < (σ.1 46) → ∀ p q : Int, 0 ≤ p → p ≤ 60 → 0 ≤ q → q ≤ 60 → ¬ (p = n1 ∧ q = n2) → (st (τ_137.2.1 75) x63 x113) ((s * 61 + p) * 61 + q) = σ.2.1 75 ((s * 61 + p) * 61 + q) ∧ (st (τ_137.2.1 76) x63 x103) ((s * 61 + p) * 61 + q) = σ.2.1 76 ((s * 61 + p) * 61 + q) from by (first | exact i41_4 | (intro s a b p q c d e f g; exact ⟨rfl, rfl⟩) | (rw [g75_τ37, g76_τ37]; exact i41_4) | (intro s a b p q c d e f g; have ne : (s * 61 + p) * 61 + q ≠ (x6 * 61 + n1) * 61 + n2 := (fun z => by (have s6 : s = x6 := (by omega); rw [s6] at z; exact g ⟨by omega, by omega⟩)); rw [q7_1, st_n _ _ ne]; exact ⟨rfl, rfl⟩) | (intro s a b p q c d e f g; rw [q62_1, st_n _ _ (by omega), st_n _ _ (by omega)]; exact i137_4 s a b p q c d e f g) | fail)) (show ∀ s : Int, 0 ≤ s → s < (σ.1 46) → 0 ≤ (st (τ_137.2.1 75) x63 x113) ((s * 61 + n1) * 61 + n2) ∧ (st (τ_137.2.1 75) x63 x113) ((s * 61 + n1) * 61 + n2) ≤ 2 from by (first | exact i41_5 | (intro s a b; have w := (p6 s a b).1; omega) | (rw [g75_τ37]; exact i41_5) | (intro s a b; have w := (p6 s a b).1; by_cases z : s = x6; (rw [q7_1, z, st_s]; rw [z, ← q7_1, ← e_x11] at w; omega); (rw [q7_1, st_n _ _ (by omega)]; omega)) | (intro s a b; by_cases z : s = x61; (rw [q62_1, z, st_s]; omega); (rw [q62_1, st_n _ _ (by omega)]; exact i137_5 s a b)) | fail)) (show τ_137.2.2 3 = σ.2.2 3 ∧ τ_137.2.2 4 = σ.2.2 4 from by (first | exact i41_6 | exact ⟨rfl, rfl⟩ | exact i137_6 | (rw [hf_τ37.2.2 3 (by decide), hf_τ37.2.2 4 (by decide)]; exact i41_6) | fail))
                ·
                  refine ⟨(show 0 ≤ u4_137 ∧ u4_137 < 30002 from by (first | omega | (simp only [st_s] <;> omega) | assumption | omega | fail)), ?_⟩
                  intro x105 r_x105 e_x105
                  have b_x105 : 0 ≤ x105 ∧ x105 ≤ 1500 := by rw [e_x105]; exact hT.2 81 _
                  rw [G81] at e_x105
                  refine h246 _ _ _ _ _ _ _ _ _ ?_
                  refine ⟨(show 0 ≤ x63 ∧ x63 < 372100 from by (first | omega | (simp only [st_s] <;> omega) | assumption | omega | fail)), ?_⟩
                  replace hT := mT_a (k := 76) (j := x63) hT (show (-1 : Int) ≤ x105 ∧ x105 ≤ 1499 from by (first | omega | (simp only [st_s] <;> omega) | assumption | omega | fail))
                  refine ⟨(show 0 ≤ x63 ∧ x63 < 372100 from by (first | omega | (simp only [st_s] <;> omega) | assumption | omega | fail)), ?_⟩
                  intro x110 r_x110 e_x110
                  have b_x110 : 0 ≤ x110 ∧ x110 ≤ 3 := by rw [e_x110]; exact hT.2 75 _
                  refine ⟨(⟨by (first | omega | (simp only [st_s] <;> omega) | assumption | omega | fail), by (first | omega | (simp only [st_s] <;> omega) | assumption | omega | fail)⟩ : rg (x110 + 1)), ?_⟩
                  refine ⟨_, K_X13_capped hT, ?_⟩
                  intro x113 r_x113 hq
                  have q112_1 := hq
                  replace q112_1 : ((x110 + 1) ≤ 2 ∧ x113 = (x110 + 1)) ∨ (2 < (x110 + 1) ∧ x113 = 2) := q112_1
                  have hm : ((1 : Int) = 2 ∧ (y_N2 n3 (y_hd σ) (y_nn σ) (y_f σ) (σ.2.1 72) (y_W1 (σ.1 3) (σ.2.1 71) (σ.2.1 75)) (y_W2 (σ.1 3) (σ.2.1 71) (σ.2.1 75)) n1 n2 (σ.2.1 81) (σ.2.1 82)) u4_137 (y_hd σ (σ.2.1 81 u4_137))) ∨ ((1 : Int) = 1 ∧ ¬ (y_N2 n3 (y_hd σ) (y_nn σ) (y_f σ) (σ.2.1 72) (y_W1 (σ.1 3) (σ.2.1 71) (σ.2.1 75)) (y_W2 (σ.1 3) (σ.2.1 71) (σ.2.1 75)) n1 n2 (σ.2.1 81) (σ.2.1 82)) u4_137 (y_hd σ (σ.2.1 81 u4_137))) := by (first | exact Or.inl ⟨rfl, na, Or.inr (by omega)⟩ | exact Or.inl ⟨rfl, na, Or.inl (nd.2.mp (by rw [← e_x66]; exact (y_sr1 (by omega) (by omega)).mp (by assumption)))⟩ | exact Or.inr ⟨rfl, fun h => h.2.elim (fun w => absurd ((y_sr1 (x := x66) (k := n2) (by omega) (by omega)).mpr (by rw [e_x66]; exact nd.2.mpr w)) (by assumption)) (fun w => by omega)⟩)
                  have hw : (x110 + 1 ≤ 2 ∧ x113 = x110 + 1) ∨ (2 < x110 + 1 ∧ x113 = 2) := q112_1
                  rw [q62_1, e_x61] at e_x110
                  replace hT := mT_a (k := 75) (j := x63) hT (show (0 : Int) ≤ x113 ∧ x113 ≤ 3 from by (first | omega | (simp only [st_s] <;> omega) | assumption | omega | fail))
                  refine ⟨(⟨by (first | omega | (simp only [st_s] <;> omega) | assumption | omega | fail), by (first | omega | (simp only [st_s] <;> omega) | assumption | omega | fail)⟩ : rg (u4_137 + 1)), ?_⟩
                  exact ih_41 _ _ (show (30002 - (u4_137 + 1) : Int) < ((m_41 : Nat) : Int) from by ((first | omega | (simp only [st_s] <;> omega) | assumption | omega | fail))) hT (show τ_137.1 3 = σ.1 3 from by first | exact W3 | omega) (show τ_137.1 5 = σ.1 5 from by first | exact W5 | omega) (show τ_137.1 45 = σ.1 45 from by first | exact W45 | omega) (show τ_137.1 46 = σ.1 46 from by first | exact W46 | omega) (show τ_137.1 47 = σ.1 47 from by first | exact W47 | omega) (show τ_137.1 48 = σ.1 48 from by first | exact W48 | omega) G71 G72 G73 G77 G78 G81 G82 G83 G84 G14 G16 G10 (show 1 ≤ (u4_137 + 1) ∧ (u4_137 + 1) ≤ (σ.1 47) from by (first | omega | (simp only [st_s] <;> omega) | assumption | omega | fail)) (show y_Fr (σ.1 47) n3 n1 n2 (fun z => z < (u4_137 + 1) ∧ ¬ y_FV (σ.2.1 78) (σ.2.1 77) z) (σ.2.1 72) (y_W1 (σ.1 3) (σ.2.1 71) (σ.2.1 75)) (y_W2 (σ.1 3) (σ.2.1 71) (σ.2.1 75)) (σ.2.1 78) (σ.2.1 77) (σ.2.1 83) (τ_137.2.2 5) (τ_137.2.2 6) from by (first | exact y_Fr_d p7 (fun x a b c d => ⟨fun z => z.elim, fun z => by have := z.1; omega⟩) p2 | exact y_Fr_d i41_2 (fun x a b c d => y_D1 (fun z => by rw [z] at c d; omega)) p2 | exact y_Fr_d i41_2 (fun x a b c d => y_D1 (fun z => by rw [z]; exact q31_2.mp (by assumption))) p2 | exact y_Fr_d fs (fun x a b c d => y_D2 fv) p2 | exact y_Fr_d i137_2 (fun x a b c d => y_D2 i137_12) p2 | exact y_sk p8 v21 wr i41_2 p1 p2 p3 (by omega) i41_1.1 (by omega) (by omega) (by omega) (by omega) ((qT.2.2.1 u4_41 i41_1.1 (by omega)).2.2 (by omega)) (y_sp qT tyR i41_1.1 (by omega) (by omega)) (by rw [← e_x26, ← e_x28]; assumption) (y_BA qT v21 i41_2 i41_1.1 (by omega) (by omega) (by omega)) | fail)) (show y_B (σ.1 3) n1 n2 (u4_137 + 1) (σ.2.1 71) (fun t => y_L (y_ls (σ.1 3) (σ.2.1 71) (σ.2.1 73)) t n1 n2) (y_N1 n3 (y_hd σ) (y_nn σ) (y_f σ) (σ.2.1 72) (y_W1 (σ.1 3) (σ.2.1 71) (σ.2.1 75)) n1 n2 (σ.2.1 81)) (y_N2 n3 (y_hd σ) (y_nn σ) (y_f σ) (σ.2.1 72) (y_W1 (σ.1 3) (σ.2.1 71) (σ.2.1 75)) (y_W2 (σ.1 3) (σ.2.1 71) (σ.2.1 75)) n1 n2 (σ.2.1 81) (σ.2.1 82)) (σ.2.1 81) ((st (τ_137.2.1 75) x63 x113)) ((st (τ_137.2.1 76) x63 x105)) from by (first | exact y_B_0 p6 soS inj hlf (Or.inl ⟨by omega, rfl⟩) | exact y_B_0 p6 soS inj hlf (Or.inr ⟨by omega, by rw [show x11 + 1 = 1 from by omega, q7_1, ← e_x6]⟩) | exact y_B_n i41_3 (y_nA qF l5 i41_1.1 (by omega) (by omega)) n21 | exact y_B_n i41_3 (y_nB qT nR l5 i41_1.1 (by omega) (q21_2.mp (by assumption))) n21 | exact y_B_n i41_3 (y_nC qT nR nuR l5 i41_1.1 (by omega) (q31_2.mp (by assumption))) n21 | (rw [g75_τ37, g76_τ37]; exact y_B_n i41_3 (fun t h => by (have w := h.1; omega)) n21) | (rw [g75_τ37, g76_τ37]; exact y_B_n i41_3 (fun t h => absurd ((y_sr1 (x := x41) (k := n2) (by omega) (by omega)).mpr (by rw [e_x41]; exact (y_nD qT qF l5 fs (by omega) (by omega) i41_1.1 (by omega) (Or.inr rfl) h.1).1.mpr h.2.2)) (by assumption)) n21) | exact y_B_n i41_3 (nsk (by assumption)) n21 | (rw [q62_1, e_x61]; exact y_B_y i137_3 i137_1.1 hdi.1 hdi.2.1 hdi.2.2 inj na (fun t h => h.2.1.symm) n21 hm (by rw [← e_x110]; exact hw) (by first | exact Or.inl ⟨by (rw [← e_x61, ← q62_1, ← e_x101]; assumption), by (rw [← e_x61, ← q62_1]; exact e_x103)⟩ | exact Or.inr ⟨by (rw [← e_x61, ← q62_1, ← e_x101]; assumption), e_x105⟩)) | fail)) (show ∀ s : Int, 0 ≤ s → s < (σ.1 46) → ∀ p q : Int, 0 ≤ p → p ≤ 60 → 0 ≤ q → q ≤ 60 → ¬ (p = n1 ∧ q = n2) → (st (τ_137.2.1 75) x63 x113) ((s * 61 + p) * 61 + q) = σ.2.1 75 ((s * 61 + p) * 61 + q) ∧ (st (τ_137.2.1 76) x63 x105) ((s * 61 + p) * 61 + q) = σ.2.1 76 ((s * 61 + p) * 61 + q) from by (first | exact i41_4 | (intro s a b p q c d e f g; exact ⟨rfl, rfl⟩) | (rw [g75_τ37, g76_τ37]; exact i41_4) | (intro s a b p q c d e f g; have ne : (s * 61 + p) * 61 + q ≠ (x6 * 61 + n1) * 61 + n2 := (fun z => by (have s6 : s = x6 := (by omega); rw [s6] at z; exact g ⟨by omega, by omega⟩)); rw [q7_1, st_n _ _ ne]; exact ⟨rfl, rfl⟩) | (intro s a b p q c d e f g; rw [q62_1, st_n _ _ (by omega), st_n _ _ (by omega)]; exact i137_4 s a b p q c d e f g) | fail)) (show ∀ s : Int, 0 ≤ s → s < (σ.1 46) → 0 ≤ (st (τ_137.2.1 75) x63 x113) ((s * 61 + n1) * 61 + n2) ∧ (st (τ_137.2.1 75) x63 x113) ((s * 61 + n1) * 61 + n2) ≤ 2 from by (first | exact i41_5 | (intro s a b; have w := (p6 s a b).1; omega) | (rw [g75_τ37]; exact i41_5) | (intro s a b; have w := (p6 s a b).1; by_cases z : s = x6; (rw [q7_1, z, st_s]; rw [z, ← q7_1, ← e_x11] at w; omega); (rw [q7_1, st_n _ _ (by omega)]; omega)) | (intro s a b; by_cases z : s = x61; (rw [q62_1, z, st_s]; omega); (rw [q62_1, st_n _ _ (by omega)]; exact i137_5 s a b)) | fail)) (show τ_137.2.2 3 = σ.2.2 3 ∧ τ_137.2.2 4 = σ.2.2 4 from by (first | exact i41_6 | exact ⟨rfl, rfl⟩ | exact i137_6 | (rw [hf_τ37.2.2 3 (by decide), hf_τ37.2.2 4 (by decide)]; exact i41_6) | fail))
              ·
                refine h210 _ _ _ _ _ _ _ ?_
                refine ⟨(show 0 ≤ x63 ∧ x63 < 372100 from by (first | omega | (simp only [st_s] <;> omega) | assumption | omega | fail)), ?_⟩
                intro x101 r_x101 e_x101
                have b_x101 : (-1) ≤ x101 ∧ x101 ≤ 1499 := by rw [e_x101]; exact hT.2 76 _
                refine ⟨fun c102 => ?_, fun c102 => ?_⟩
                ·
                  intro x103 r_x103 e_x103
                  have b_x103 : (-1) ≤ x103 ∧ x103 ≤ 1499 := by rw [e_x103]; exact hT.2 76 _
                  refine h246 _ _ _ _ _ _ _ _ _ ?_
                  refine ⟨(show 0 ≤ x63 ∧ x63 < 372100 from by (first | omega | (simp only [st_s] <;> omega) | assumption | omega | fail)), ?_⟩
                  replace hT := mT_a (k := 76) (j := x63) hT (show (-1 : Int) ≤ x103 ∧ x103 ≤ 1499 from by (first | omega | (simp only [st_s] <;> omega) | assumption | omega | fail))
                  refine ⟨(show 0 ≤ x63 ∧ x63 < 372100 from by (first | omega | (simp only [st_s] <;> omega) | assumption | omega | fail)), ?_⟩
                  intro x110 r_x110 e_x110
                  have b_x110 : 0 ≤ x110 ∧ x110 ≤ 3 := by rw [e_x110]; exact hT.2 75 _
                  refine ⟨(⟨by (first | omega | (simp only [st_s] <;> omega) | assumption | omega | fail), by (first | omega | (simp only [st_s] <;> omega) | assumption | omega | fail)⟩ : rg (x110 + 2)), ?_⟩
                  refine ⟨_, K_X13_capped hT, ?_⟩
                  intro x113 r_x113 hq
                  have q112_1 := hq
                  replace q112_1 : ((x110 + 2) ≤ 2 ∧ x113 = (x110 + 2)) ∨ (2 < (x110 + 2) ∧ x113 = 2) := q112_1
                  have hm : ((2 : Int) = 2 ∧ (y_N2 n3 (y_hd σ) (y_nn σ) (y_f σ) (σ.2.1 72) (y_W1 (σ.1 3) (σ.2.1 71) (σ.2.1 75)) (y_W2 (σ.1 3) (σ.2.1 71) (σ.2.1 75)) n1 n2 (σ.2.1 81) (σ.2.1 82)) u4_137 (y_hd σ (σ.2.1 81 u4_137))) ∨ ((2 : Int) = 1 ∧ ¬ (y_N2 n3 (y_hd σ) (y_nn σ) (y_f σ) (σ.2.1 72) (y_W1 (σ.1 3) (σ.2.1 71) (σ.2.1 75)) (y_W2 (σ.1 3) (σ.2.1 71) (σ.2.1 75)) n1 n2 (σ.2.1 81) (σ.2.1 82)) u4_137 (y_hd σ (σ.2.1 81 u4_137))) := by (first | exact Or.inl ⟨rfl, na, Or.inr (by omega)⟩ | exact Or.inl ⟨rfl, na, Or.inl (nd.2.mp (by rw [← e_x66]; exact (y_sr1 (by omega) (by omega)).mp (by assumption)))⟩ | exact Or.inr ⟨rfl, fun h => h.2.elim (fun w => absurd ((y_sr1 (x := x66) (k := n2) (by omega) (by omega)).mpr (by rw [e_x66]; exact nd.2.mpr w)) (by assumption)) (fun w => by omega)⟩)
                  have hw : (x110 + 2 ≤ 2 ∧ x113 = x110 + 2) ∨ (2 < x110 + 2 ∧ x113 = 2) := q112_1
                  rw [q62_1, e_x61] at e_x110
                  replace hT := mT_a (k := 75) (j := x63) hT (show (0 : Int) ≤ x113 ∧ x113 ≤ 3 from by (first | omega | (simp only [st_s] <;> omega) | assumption | omega | fail))
                  refine ⟨(⟨by (first | omega | (simp only [st_s] <;> omega) | assumption | omega | fail), by (first | omega | (simp only [st_s] <;> omega) | assumption | omega | fail)⟩ : rg (u4_137 + 1)), ?_⟩
                  exact ih_41 _ _ (show (30002 - (u4_137 + 1) : Int) < ((m_41 : Nat) : Int) from by ((first | omega | (simp only [st_s] <;> omega) | assumption | omega | fail))) hT (show τ_137.1 3 = σ.1 3 from by first | exact W3 | omega) (show τ_137.1 5 = σ.1 5 from by first | exact W5 | omega) (show τ_137.1 45 = σ.1 45 from by first | exact W45 | omega) (show τ_137.1 46 = σ.1 46 from by first | exact W46 | omega) (show τ_137.1 47 = σ.1 47 from by first | exact W47 | omega) (show τ_137.1 48 = σ.1 48 from by first | exact W48 | omega) G71 G72 G73 G77 G78 G81 G82 G83 G84 G14 G16 G10 (show 1 ≤ (u4_137 + 1) ∧ (u4_137 + 1) ≤ (σ.1 47) from by (first | omega | (simp only [st_s] <;> omega) | assumption | omega | fail)) (show y_Fr (σ.1 47) n3 n1 n2 (fun z => z < (u4_137 + 1) ∧ ¬ y_FV (σ.2.1 78) (σ.2.1 77) z) (σ.2.1 72) (y_W1 (σ.1 3) (σ.2.1 71) (σ.2.1 75)) (y_W2 (σ.1 3) (σ.2.1 71) (σ.2.1 75)) (σ.2.1 78) (σ.2.1 77) (σ.2.1 83) (τ_137.2.2 5) (τ_137.2.2 6) from by (first | exact y_Fr_d p7 (fun x a b c d => ⟨fun z => z.elim, fun z => by have := z.1; omega⟩) p2 | exact y_Fr_d i41_2 (fun x a b c d => y_D1 (fun z => by rw [z] at c d; omega)) p2 | exact y_Fr_d i41_2 (fun x a b c d => y_D1 (fun z => by rw [z]; exact q31_2.mp (by assumption))) p2 | exact y_Fr_d fs (fun x a b c d => y_D2 fv) p2 | exact y_Fr_d i137_2 (fun x a b c d => y_D2 i137_12) p2 | exact y_sk p8 v21 wr i41_2 p1 p2 p3 (by omega) i41_1.1 (by omega) (by omega) (by omega) (by omega) ((qT.2.2.1 u4_41 i41_1.1 (by omega)).2.2 (by omega)) (y_sp qT tyR i41_1.1 (by omega) (by omega)) (by rw [← e_x26, ← e_x28]; assumption) (y_BA qT v21 i41_2 i41_1.1 (by omega) (by omega) (by omega)) | fail)) (show y_B (σ.1 3) n1 n2 (u4_137 + 1) (σ.2.1 71) (fun t => y_L (y_ls (σ.1 3) (σ.2.1 71) (σ.2.1 73)) t n1 n2) (y_N1 n3 (y_hd σ) (y_nn σ) (y_f σ) (σ.2.1 72) (y_W1 (σ.1 3) (σ.2.1 71) (σ.2.1 75)) n1 n2 (σ.2.1 81)) (y_N2 n3 (y_hd σ) (y_nn σ) (y_f σ) (σ.2.1 72) (y_W1 (σ.1 3) (σ.2.1 71) (σ.2.1 75)) (y_W2 (σ.1 3) (σ.2.1 71) (σ.2.1 75)) n1 n2 (σ.2.1 81) (σ.2.1 82)) (σ.2.1 81) ((st (τ_137.2.1 75) x63 x113)) ((st (τ_137.2.1 76) x63 x103)) from by (first | exact y_B_0 p6 soS inj hlf (Or.inl ⟨by omega, rfl⟩) | exact y_B_0 p6 soS inj hlf (Or.inr ⟨by omega, by rw [show x11 + 1 = 1 from by omega, q7_1, ← e_x6]⟩) | exact y_B_n i41_3 (y_nA qF l5 i41_1.1 (by omega) (by omega)) n21 | exact y_B_n i41_3 (y_nB qT nR l5 i41_1.1 (by omega) (q21_2.mp (by assumption))) n21 | exact y_B_n i41_3 (y_nC qT nR nuR l5 i41_1.1 (by omega) (q31_2.mp (by assumption))) n21 | (rw [g75_τ37, g76_τ37]; exact y_B_n i41_3 (fun t h => by (have w := h.1; omega)) n21) | (rw [g75_τ37, g76_τ37]; exact y_B_n i41_3 (fun t h => absurd ((y_sr1 (x := x41) (k := n2) (by omega) (by omega)).mpr (by rw [e_x41]; exact (y_nD qT qF l5 fs (by omega) (by omega) i41_1.1 (by omega) (Or.inr rfl) h.1).1.mpr h.2.2)) (by assumption)) n21) | exact y_B_n i41_3 (nsk (by assumption)) n21 | (rw [q62_1, e_x61]; exact y_B_y i137_3 i137_1.1 hdi.1 hdi.2.1 hdi.2.2 inj na (fun t h => h.2.1.symm) n21 hm (by rw [← e_x110]; exact hw) (by first | exact Or.inl ⟨by (rw [← e_x61, ← q62_1, ← e_x101]; assumption), by (rw [← e_x61, ← q62_1]; exact e_x103)⟩ | exact Or.inr ⟨by (rw [← e_x61, ← q62_1, ← e_x101]; assumption), e_x105⟩)) | fail)) (show ∀ s : Int, 0 ≤ s → s < (σ.1 46) → ∀ p q : Int, 0 ≤ p → p ≤ 60 → 0 ≤ q → q ≤ 60 → ¬ (p = n1 ∧ q = n2) → (st (τ_137.2.1 75) x63 x113) ((s * 61 + p) * 61 + q) = σ.2.1 75 ((s * 61 + p) * 61 + q) ∧ (st (τ_137.2.1 76) x63 x103) ((s * 61 + p) * 61 + q) = σ.2.1 76 ((s * 61 + p) * 61 + q) from by (first | exact i41_4 | (intro s a b p q c d e f g; exact ⟨rfl, rfl⟩) | (rw [g75_τ37, g76_τ37]; exact i41_4) | (intro s a b p q c d e f g; have ne : (s * 61 + p) * 61 + q ≠ (x6 * 61 + n1) * 61 + n2 := (fun z => by (have s6 : s = x6 := (by omega); rw [s6] at z; exact g ⟨by omega, by omega⟩)); rw [q7_1, st_n _ _ ne]; exact ⟨rfl, rfl⟩) | (intro s a b p q c d e f g; rw [q62_1, st_n _ _ (by omega), st_n _ _ (by omega)]; exact i137_4 s a b p q c d e f g) | fail)) (show ∀ s : Int, 0 ≤ s → s < (σ.1 46) → 0 ≤ (st (τ_137.2.1 75) x63 x113) ((s * 61 + n1) * 61 + n2) ∧ (st (τ_137.2.1 75) x63 x113) ((s * 61 + n1) * 61 + n2) ≤ 2 from by (first | exact i41_5 | (intro s a b; have w := (p6 s a b).1; omega) | (rw [g75_τ37]; exact i41_5) | (intro s a b; have w := (p6 s a b).1; by_cases z : s = x6; (rw [q7_1, z, st_s]; rw [z, ← q7_1, ← e_x11] at w; omega); (rw [q7_1, st_n _ _ (by omega)]; omega)) | (intro s a b; by_cases z : s = x61; (rw [q62_1, z, st_s]; omega); (rw [q62_1, st_n _ _ (by omega)]; exact i137_5 s a b)) | fail)) (show τ_137.2.2 3 = σ.2.2 3 ∧ τ_137.2.2 4 = σ.2.2 4 from by (first | exact i41_6 | exact ⟨rfl, rfl⟩ | exact i137_6 | (rw [hf_τ37.2.2 3 (by decide), hf_τ37.2.2 4 (by decide)]; exact i41_6) | fail))
                ·
                  refine ⟨(show 0 ≤ u4_137 ∧ u4_137 < 30002 from by (first | omega | (simp only [st_s] <;> omega) | assumption | omega | fail)), ?_⟩
                  intro x105 r_x105 e_x105
                  have b_x105 : 0 ≤ x105 ∧ x105 ≤ 1500 := by rw [e_x105]; exact hT.2 81 _
                  rw [G81] at e_x105
                  refine h246 _ _ _ _ _ _ _ _ _ ?_
                  refine ⟨(show 0 ≤ x63 ∧ x63 < 372100 from by (first | omega | (simp only [st_s] <;> omega) | assumption | omega | fail)), ?_⟩
                  replace hT := mT_a (k := 76) (j := x63) hT (show (-1 : Int) ≤ x105 ∧ x105 ≤ 1499 from by (first | omega | (simp only [st_s] <;> omega) | assumption | omega | fail))
                  refine ⟨(show 0 ≤ x63 ∧ x63 < 372100 from by (first | omega | (simp only [st_s] <;> omega) | assumption | omega | fail)), ?_⟩
                  intro x110 r_x110 e_x110
                  have b_x110 : 0 ≤ x110 ∧ x110 ≤ 3 := by rw [e_x110]; exact hT.2 75 _
                  refine ⟨(⟨by (first | omega | (simp only [st_s] <;> omega) | assumption | omega | fail), by (first | omega | (simp only [st_s] <;> omega) | assumption | omega | fail)⟩ : rg (x110 + 2)), ?_⟩
                  refine ⟨_, K_X13_capped hT, ?_⟩
                  intro x113 r_x113 hq
                  have q112_1 := hq
                  replace q112_1 : ((x110 + 2) ≤ 2 ∧ x113 = (x110 + 2)) ∨ (2 < (x110 + 2) ∧ x113 = 2) := q112_1
                  have hm : ((2 : Int) = 2 ∧ (y_N2 n3 (y_hd σ) (y_nn σ) (y_f σ) (σ.2.1 72) (y_W1 (σ.1 3) (σ.2.1 71) (σ.2.1 75)) (y_W2 (σ.1 3) (σ.2.1 71) (σ.2.1 75)) n1 n2 (σ.2.1 81) (σ.2.1 82)) u4_137 (y_hd σ (σ.2.1 81 u4_137))) ∨ ((2 : Int) = 1 ∧ ¬ (y_N2 n3 (y_hd σ) (y_nn σ) (y_f σ) (σ.2.1 72) (y_W1 (σ.1 3) (σ.2.1 71) (σ.2.1 75)) (y_W2 (σ.1 3) (σ.2.1 71) (σ.2.1 75)) n1 n2 (σ.2.1 81) (σ.2.1 82)) u4_137 (y_hd σ (σ.2.1 81 u4_137))) := by (first | exact Or.inl ⟨rfl, na, Or.inr (by omega)⟩ | exact Or.inl ⟨rfl, na, Or.inl (nd.2.mp (by rw [← e_x66]; exact (y_sr1 (by omega) (by omega)).mp (by assumption)))⟩ | exact Or.inr ⟨rfl, fun h => h.2.elim (fun w => absurd ((y_sr1 (x := x66) (k := n2) (by omega) (by omega)).mpr (by rw [e_x66]; exact nd.2.mpr w)) (by assumption)) (fun w => by omega)⟩)
                  have hw : (x110 + 2 ≤ 2 ∧ x113 = x110 + 2) ∨ (2 < x110 + 2 ∧ x113 = 2) := q112_1
                  rw [q62_1, e_x61] at e_x110
                  replace hT := mT_a (k := 75) (j := x63) hT (show (0 : Int) ≤ x113 ∧ x113 ≤ 3 from by (first | omega | (simp only [st_s] <;> omega) | assumption | omega | fail))
                  refine ⟨(⟨by (first | omega | (simp only [st_s] <;> omega) | assumption | omega | fail), by (first | omega | (simp only [st_s] <;> omega) | assumption | omega | fail)⟩ : rg (u4_137 + 1)), ?_⟩
                  exact ih_41 _ _ (show (30002 - (u4_137 + 1) : Int) < ((m_41 : Nat) : Int) from by ((first | omega | (simp only [st_s] <;> omega) | assumption | omega | fail))) hT (show τ_137.1 3 = σ.1 3 from by first | exact W3 | omega) (show τ_137.1 5 = σ.1 5 from by first | exact W5 | omega) (show τ_137.1 45 = σ.1 45 from by first | exact W45 | omega) (show τ_137.1 46 = σ.1 46 from by first | exact W46 | omega) (show τ_137.1 47 = σ.1 47 from by first | exact W47 | omega) (show τ_137.1 48 = σ.1 48 from by first | exact W48 | omega) G71 G72 G73 G77 G78 G81 G82 G83 G84 G14 G16 G10 (show 1 ≤ (u4_137 + 1) ∧ (u4_137 + 1) ≤ (σ.1 47) from by (first | omega | (simp only [st_s] <;> omega) | assumption | omega | fail)) (show y_Fr (σ.1 47) n3 n1 n2 (fun z => z < (u4_137 + 1) ∧ ¬ y_FV (σ.2.1 78) (σ.2.1 77) z) (σ.2.1 72) (y_W1 (σ.1 3) (σ.2.1 71) (σ.2.1 75)) (y_W2 (σ.1 3) (σ.2.1 71) (σ.2.1 75)) (σ.2.1 78) (σ.2.1 77) (σ.2.1 83) (τ_137.2.2 5) (τ_137.2.2 6) from by (first | exact y_Fr_d p7 (fun x a b c d => ⟨fun z => z.elim, fun z => by have := z.1; omega⟩) p2 | exact y_Fr_d i41_2 (fun x a b c d => y_D1 (fun z => by rw [z] at c d; omega)) p2 | exact y_Fr_d i41_2 (fun x a b c d => y_D1 (fun z => by rw [z]; exact q31_2.mp (by assumption))) p2 | exact y_Fr_d fs (fun x a b c d => y_D2 fv) p2 | exact y_Fr_d i137_2 (fun x a b c d => y_D2 i137_12) p2 | exact y_sk p8 v21 wr i41_2 p1 p2 p3 (by omega) i41_1.1 (by omega) (by omega) (by omega) (by omega) ((qT.2.2.1 u4_41 i41_1.1 (by omega)).2.2 (by omega)) (y_sp qT tyR i41_1.1 (by omega) (by omega)) (by rw [← e_x26, ← e_x28]; assumption) (y_BA qT v21 i41_2 i41_1.1 (by omega) (by omega) (by omega)) | fail)) (show y_B (σ.1 3) n1 n2 (u4_137 + 1) (σ.2.1 71) (fun t => y_L (y_ls (σ.1 3) (σ.2.1 71) (σ.2.1 73)) t n1 n2) (y_N1 n3 (y_hd σ) (y_nn σ) (y_f σ) (σ.2.1 72) (y_W1 (σ.1 3) (σ.2.1 71) (σ.2.1 75)) n1 n2 (σ.2.1 81)) (y_N2 n3 (y_hd σ) (y_nn σ) (y_f σ) (σ.2.1 72) (y_W1 (σ.1 3) (σ.2.1 71) (σ.2.1 75)) (y_W2 (σ.1 3) (σ.2.1 71) (σ.2.1 75)) n1 n2 (σ.2.1 81) (σ.2.1 82)) (σ.2.1 81) ((st (τ_137.2.1 75) x63 x113)) ((st (τ_137.2.1 76) x63 x105)) from by (first | exact y_B_0 p6 soS inj hlf (Or.inl ⟨by omega, rfl⟩) | exact y_B_0 p6 soS inj hlf (Or.inr ⟨by omega, by rw [show x11 + 1 = 1 from by omega, q7_1, ← e_x6]⟩) | exact y_B_n i41_3 (y_nA qF l5 i41_1.1 (by omega) (by omega)) n21 | exact y_B_n i41_3 (y_nB qT nR l5 i41_1.1 (by omega) (q21_2.mp (by assumption))) n21 | exact y_B_n i41_3 (y_nC qT nR nuR l5 i41_1.1 (by omega) (q31_2.mp (by assumption))) n21 | (rw [g75_τ37, g76_τ37]; exact y_B_n i41_3 (fun t h => by (have w := h.1; omega)) n21) | (rw [g75_τ37, g76_τ37]; exact y_B_n i41_3 (fun t h => absurd ((y_sr1 (x := x41) (k := n2) (by omega) (by omega)).mpr (by rw [e_x41]; exact (y_nD qT qF l5 fs (by omega) (by omega) i41_1.1 (by omega) (Or.inr rfl) h.1).1.mpr h.2.2)) (by assumption)) n21) | exact y_B_n i41_3 (nsk (by assumption)) n21 | (rw [q62_1, e_x61]; exact y_B_y i137_3 i137_1.1 hdi.1 hdi.2.1 hdi.2.2 inj na (fun t h => h.2.1.symm) n21 hm (by rw [← e_x110]; exact hw) (by first | exact Or.inl ⟨by (rw [← e_x61, ← q62_1, ← e_x101]; assumption), by (rw [← e_x61, ← q62_1]; exact e_x103)⟩ | exact Or.inr ⟨by (rw [← e_x61, ← q62_1, ← e_x101]; assumption), e_x105⟩)) | fail)) (show ∀ s : Int, 0 ≤ s → s < (σ.1 46) → ∀ p q : Int, 0 ≤ p → p ≤ 60 → 0 ≤ q → q ≤ 60 → ¬ (p = n1 ∧ q = n2) → (st (τ_137.2.1 75) x63 x113) ((s * 61 + p) * 61 + q) = σ.2.1 75 ((s * 61 + p) * 61 + q) ∧ (st (τ_137.2.1 76) x63 x105) ((s * 61 + p) * 61 + q) = σ.2.1 76 ((s * 61 + p) * 61 + q) from by (first | exact i41_4 | (intro s a b p q c d e f g; exact ⟨rfl, rfl⟩) | (rw [g75_τ37, g76_τ37]; exact i41_4) | (intro s a b p q c d e f g; have ne : (s * 61 + p) * 61 + q ≠ (x6 * 61 + n1) * 61 + n2 := (fun z => by (have s6 : s = x6 := (by omega); rw [s6] at z; exact g ⟨by omega, by omega⟩)); rw [q7_1, st_n _ _ ne]; exact ⟨rfl, rfl⟩) | (intro s a b p q c d e f g; rw [q62_1, st_n _ _ (by omega), st_n _ _ (by omega)]; exact i137_4 s a b p q c d e f g) | fail)) (show ∀ s : Int, 0 ≤ s → s < (σ.1 46) → 0 ≤ (st (τ_137.2.1 75) x63 x113) ((s * 61 + n1) * 61 + n2) ∧ (st (τ_137.2.1 75) x63 x113) ((s * 61 + n1) * 61 + n2) ≤ 2 from by (first | exact i41_5 | (intro s a b; have w := (p6 s a b).1; omega) | (rw [g75_τ37]; exact i41_5) | (intro s a b; have w := (p6 s a b).1; by_cases z : s = x6; (rw [q7_1, z, st_s]; rw [z, ← q7_1, ← e_x11] at w; omega); (rw [q7_1, st_n _ _ (by omega)]; omega)) | (intro s a b; by_cases z : s = x61; (rw [q62_1, z, st_s]; omega); (rw [q62_1, st_n _ _ (by omega)]; exact i137_5 s a b)) | fail)) (show τ_137.2.2 3 = σ.2.2 3 ∧ τ_137.2.2 4 = σ.2.2 4 from by (first | exact i41_6 | exact ⟨rfl, rfl⟩ | exact i137_6 | (rw [hf_τ37.2.2 3 (by decide), hf_τ37.2.2 4 (by decide)]; exact i41_6) | fail))
          ·
            have kz : ¬ x55 = 0 → σ.2.1 77 u5_137 = y_hd σ (σ.2.1 81 u4_137) := fun z => by (rcases kk with _ | k; (exact kp.2.2); (have w := y_pt_1 k _ kp.2.2; have v := q54_2.mp z; omega))
            have ky : x55 = 0 → ∃ k : Nat, y_pt (σ.2.1 78) (σ.2.1 77) (y_hd σ (σ.2.1 81 u4_137)) (y_f σ (σ.2.1 81 u4_137)) k (σ.2.1 78 u5_137) := fun z => by (rcases kk with _ | k; (exact absurd (q54_2.mpr kp.2.1) (by omega)); (exact ⟨k, kp.2.2⟩))
            refine ⟨(show 0 ≤ u5_137 ∧ u5_137 < 30002 from by (first | omega | (simp only [st_s] <;> omega) | assumption | omega | fail)), ?_⟩
            intro x71 r_x71 e_x71
            have b_x71 : (-1) ≤ x71 ∧ x71 ≤ 30001 := by rw [e_x71]; exact hT.2 78 _
            rw [G78] at e_x71
            have k71 := ky (by assumption)
            rw [← e_x71] at k71
            have k72 := y_pt_1 _ _ k71.choose_spec
            exact ih_137 _ _ _ (show (x71 : Int) < ((m_137 : Nat) : Int) from by ((first | omega | (simp only [st_s] <;> omega) | assumption | omega | fail))) hT (show τ_137.1 3 = σ.1 3 from by first | exact W3 | omega) (show τ_137.1 5 = σ.1 5 from by first | exact W5 | omega) (show τ_137.1 45 = σ.1 45 from by first | exact W45 | omega) (show τ_137.1 46 = σ.1 46 from by first | exact W46 | omega) (show τ_137.1 47 = σ.1 47 from by first | exact W47 | omega) (show τ_137.1 48 = σ.1 48 from by first | exact W48 | omega) G71 G72 G73 G77 G78 G81 G82 G83 G84 G14 G16 G10 (show 1 ≤ u4_137 ∧ u4_137 < (σ.1 47) from by (first | omega | (simp only [st_s] <;> omega) | assumption | omega | fail)) (show y_Fr (σ.1 47) n3 n1 n2 (fun z => (z < u4_137 ∧ ¬ y_FV (σ.2.1 78) (σ.2.1 77) z) ∨ z = u4_137) (σ.2.1 72) (y_W1 (σ.1 3) (σ.2.1 71) (σ.2.1 75)) (y_W2 (σ.1 3) (σ.2.1 71) (σ.2.1 75)) (σ.2.1 78) (σ.2.1 77) (σ.2.1 83) (τ_137.2.2 5) (τ_137.2.2 6) from by (first | exact fs | exact i137_2 | fail)) (show y_B (σ.1 3) n1 n2 u4_137 (σ.2.1 71) (fun t => y_L (y_ls (σ.1 3) (σ.2.1 71) (σ.2.1 73)) t n1 n2) (y_N1 n3 (y_hd σ) (y_nn σ) (y_f σ) (σ.2.1 72) (y_W1 (σ.1 3) (σ.2.1 71) (σ.2.1 75)) n1 n2 (σ.2.1 81)) (y_N2 n3 (y_hd σ) (y_nn σ) (y_f σ) (σ.2.1 72) (y_W1 (σ.1 3) (σ.2.1 71) (σ.2.1 75)) (y_W2 (σ.1 3) (σ.2.1 71) (σ.2.1 75)) n1 n2 (σ.2.1 81) (σ.2.1 82)) (σ.2.1 81) (τ_137.2.1 75) (τ_137.2.1 76) from by (first | exact i137_3 | (rw [g75_τ37, g76_τ37]; exact i41_3) | fail)) (show ∀ s : Int, 0 ≤ s → s < (σ.1 46) → ∀ p q : Int, 0 ≤ p → p ≤ 60 → 0 ≤ q → q ≤ 60 → ¬ (p = n1 ∧ q = n2) → τ_137.2.1 75 ((s * 61 + p) * 61 + q) = σ.2.1 75 ((s * 61 + p) * 61 + q) ∧ τ_137.2.1 76 ((s * 61 + p) * 61 + q) = σ.2.1 76 ((s * 61 + p) * 61 + q) from by (first | exact i137_4 | (rw [g75_τ37, g76_τ37]; exact i41_4) | fail)) (show ∀ s : Int, 0 ≤ s → s < (σ.1 46) → 0 ≤ τ_137.2.1 75 ((s * 61 + n1) * 61 + n2) ∧ τ_137.2.1 75 ((s * 61 + n1) * 61 + n2) ≤ 2 from by (first | exact i137_5 | (rw [g75_τ37]; exact i41_5) | fail)) (show τ_137.2.2 3 = σ.2.2 3 ∧ τ_137.2.2 4 = σ.2.2 4 from by (first | exact i137_6 | (rw [hf_τ37.2.2 3 (by decide), hf_τ37.2.2 4 (by decide)]; exact i41_6) | fail)) (show σ.2.1 81 u4_137 < n3 from by (first | omega | (simp only [st_s] <;> omega) | assumption | omega | fail)) (show j_b (τ_137.2.2 5 u4_137) n2 from by (first | exact i137_8 | (rw [← e_x41]; exact (y_sr1 (by omega) (by omega)).mp (by assumption)) | fail)) (show ∃ k : Nat, y_pt (σ.2.1 78) (σ.2.1 77) (y_hd σ (σ.2.1 81 u4_137)) (y_f σ (σ.2.1 81 u4_137)) k x71 from by (first | exact k71 | exact ⟨_, (y_nP qT nR l5 i41_1.1 (by omega) (by omega)).2.1⟩ | fail)) (show 1 ≤ x71 ∧ x71 < (σ.1 47) from by (first | omega | (simp only [st_s] <;> omega) | assumption | omega | fail)) (show u4_137 + (m_41 : Int) ≥ 30002 from by (first | omega | (simp only [st_s] <;> omega) | assumption | omega | fail)) (show ¬ y_FV (σ.2.1 78) (σ.2.1 77) u4_137 from by (first | exact fv | exact i137_12 | fail)) (show σ.2.1 83 u4_137 < n3 from by (first | omega | (simp only [st_s] <;> omega) | assumption | omega | fail)) (show 1 ≤ σ.2.1 78 u4_137 from by (first | omega | (simp only [st_s] <;> omega) | assumption | omega | fail))
      refine h41 n1 n2 n3 u4_41 τ_41 ?_
      refine ⟨fun c13 => ?_, fun c13 => ?_⟩
      ·
        have H10 := G10
        have H14 := G14
        have H16 := G16
        have H71 := G71
        have H84 := G84
        have HW46 := W46
        have HW48 := W48
        refine ⟨_, K_X13_closeUnits hT (show 0 ≤ n1 ∧ n1 ≤ 59 from by (first | omega | (simp only [st_s] <;> omega) | assumption | omega | fail)) (show 0 ≤ n2 ∧ n2 ≤ 59 from by (first | omega | (simp only [st_s] <;> omega) | assumption | omega | fail)) (show ∀ s : Int, 0 ≤ s → s < (τ_41.1 46) → 0 ≤ τ_41.2.1 75 ((s * 61 + n1) * 61 + n2) ∧ τ_41.2.1 75 ((s * 61 + n1) * 61 + n2) ≤ 2 from by (rw [W46]; exact i41_5)) (show ∀ k : Int, 0 ≤ k → k < (τ_41.1 48) → (0 ≤ (fun k => τ_41.2.1 71 (τ_41.2.1 16 (τ_41.2.1 14 (τ_41.2.1 84 k)))) k ∧ (fun k => τ_41.2.1 71 (τ_41.2.1 16 (τ_41.2.1 14 (τ_41.2.1 84 k)))) k < (τ_41.1 46)) ∧ (0 ≤ τ_41.2.1 10 (τ_41.2.1 16 (τ_41.2.1 14 (τ_41.2.1 84 k) + 1))) ∧ (fun k => τ_41.2.1 71 (τ_41.2.1 10 (τ_41.2.1 16 (τ_41.2.1 14 (τ_41.2.1 84 k) + 1)))) k < (τ_41.1 46) from by (rw [G71, G16, G14, G84, G10, W46, W48]; exact y_ut qd2 qd3 qd4 hTσ)) (show ∀ j k : Int, 0 ≤ j → j < k → k < (τ_41.1 48) → τ_41.2.1 84 j < τ_41.2.1 84 k from by (rw [G84, W48]; exact qd2.2.1)), ?_⟩
        intro τ16 hn_τ16 hf_τ16 hq
        obtain ⟨hT, q14_1, q14_2, q14_3⟩ := hq
        replace q14_1 : y_FF (τ_41.1 46) (τ_41.1 48) (fun k => τ_41.2.1 84 k < n3) (fun k => τ_41.2.1 71 (τ_41.2.1 16 (τ_41.2.1 14 (τ_41.2.1 84 k)))) (fun k => τ_41.2.1 71 (τ_41.2.1 10 (τ_41.2.1 16 (τ_41.2.1 14 (τ_41.2.1 84 k) + 1)))) (fun s => τ_41.2.1 75 ((s * 61 + n1) * 61 + n2)) (fun s => τ16.2.1 75 ((s * 61 + n1) * 61 + n2))  := q14_1
        replace q14_2 : ∃ ρ : Int → Int, y_rk (τ_41.1 46) (τ_41.1 48) (fun k => τ_41.2.1 84 k < n3) (fun k => τ_41.2.1 71 (τ_41.2.1 16 (τ_41.2.1 14 (τ_41.2.1 84 k)))) (fun k => τ_41.2.1 71 (τ_41.2.1 10 (τ_41.2.1 16 (τ_41.2.1 14 (τ_41.2.1 84 k) + 1)))) (fun s => τ_41.2.1 75 ((s * 61 + n1) * 61 + n2)) (fun s => τ16.2.1 75 ((s * 61 + n1) * 61 + n2)) ρ := q14_2
        replace q14_3 : ∀ e : Int, (∀ s : Int, 0 ≤ s → s < (τ_41.1 46) → e ≠ (s * 61 + n1) * 61 + n2) → τ16.2.1 75 e = τ_41.2.1 75 e := q14_3
        have w3_τ16 : τ16.1 3 = τ_41.1 3 := hf_τ16.1 3 (by decide)
        have w5_τ16 : τ16.1 5 = τ_41.1 5 := hf_τ16.1 5 (by decide)
        have w45_τ16 : τ16.1 45 = τ_41.1 45 := hf_τ16.1 45 (by decide)
        have w46_τ16 : τ16.1 46 = τ_41.1 46 := hf_τ16.1 46 (by decide)
        have w47_τ16 : τ16.1 47 = τ_41.1 47 := hf_τ16.1 47 (by decide)
        have w48_τ16 : τ16.1 48 = τ_41.1 48 := hf_τ16.1 48 (by decide)
        have g71_τ16 : τ16.2.1 71 = τ_41.2.1 71 := hf_τ16.2.1 71 (by decide)
        have g72_τ16 : τ16.2.1 72 = τ_41.2.1 72 := hf_τ16.2.1 72 (by decide)
        have g73_τ16 : τ16.2.1 73 = τ_41.2.1 73 := hf_τ16.2.1 73 (by decide)
        have g76_τ16 : τ16.2.1 76 = τ_41.2.1 76 := hf_τ16.2.1 76 (by decide)
        have g77_τ16 : τ16.2.1 77 = τ_41.2.1 77 := hf_τ16.2.1 77 (by decide)
        have g78_τ16 : τ16.2.1 78 = τ_41.2.1 78 := hf_τ16.2.1 78 (by decide)
        have g81_τ16 : τ16.2.1 81 = τ_41.2.1 81 := hf_τ16.2.1 81 (by decide)
        have g82_τ16 : τ16.2.1 82 = τ_41.2.1 82 := hf_τ16.2.1 82 (by decide)
        have g83_τ16 : τ16.2.1 83 = τ_41.2.1 83 := hf_τ16.2.1 83 (by decide)
        have g84_τ16 : τ16.2.1 84 = τ_41.2.1 84 := hf_τ16.2.1 84 (by decide)
        have g14_τ16 : τ16.2.1 14 = τ_41.2.1 14 := hf_τ16.2.1 14 (by decide)
        have g16_τ16 : τ16.2.1 16 = τ_41.2.1 16 := hf_τ16.2.1 16 (by decide)
        have g10_τ16 : τ16.2.1 10 = τ_41.2.1 10 := hf_τ16.2.1 10 (by decide)
        have W3 : τ16.1 3 = σ.1 3 := by first | exact w3_τ16.trans W3 | omega
        have W5 : τ16.1 5 = σ.1 5 := by first | exact w5_τ16.trans W5 | omega
        have W45 : τ16.1 45 = σ.1 45 := by first | exact w45_τ16.trans W45 | omega
        have W46 : τ16.1 46 = σ.1 46 := by first | exact w46_τ16.trans W46 | omega
        have W47 : τ16.1 47 = σ.1 47 := by first | exact w47_τ16.trans W47 | omega
        have W48 : τ16.1 48 = σ.1 48 := by first | exact w48_τ16.trans W48 | omega
        have G71 : τ16.2.1 71 = σ.2.1 71 := (g71_τ16).trans G71
        have G72 : τ16.2.1 72 = σ.2.1 72 := (g72_τ16).trans G72
        have G73 : τ16.2.1 73 = σ.2.1 73 := (g73_τ16).trans G73
        have G77 : τ16.2.1 77 = σ.2.1 77 := (g77_τ16).trans G77
        have G78 : τ16.2.1 78 = σ.2.1 78 := (g78_τ16).trans G78
        have G81 : τ16.2.1 81 = σ.2.1 81 := (g81_τ16).trans G81
        have G82 : τ16.2.1 82 = σ.2.1 82 := (g82_τ16).trans G82
        have G83 : τ16.2.1 83 = σ.2.1 83 := (g83_τ16).trans G83
        have G84 : τ16.2.1 84 = σ.2.1 84 := (g84_τ16).trans G84
        have G14 : τ16.2.1 14 = σ.2.1 14 := (g14_τ16).trans G14
        have G16 : τ16.2.1 16 = σ.2.1 16 := (g16_τ16).trans G16
        have G10 : τ16.2.1 10 = σ.2.1 10 := (g10_τ16).trans G10
        have A71 : ∀ j, (-1) ≤ τ16.2.1 71 j ∧ τ16.2.1 71 j ≤ 99 := fun j => hT.2 71 j
        have A72 : ∀ j, 0 ≤ τ16.2.1 72 j ∧ τ16.2.1 72 j ≤ 999 := fun j => hT.2 72 j
        have A73 : ∀ j, (-1) ≤ τ16.2.1 73 j ∧ τ16.2.1 73 j ≤ 99 := fun j => hT.2 73 j
        have A75 : ∀ j, 0 ≤ τ16.2.1 75 j ∧ τ16.2.1 75 j ≤ 3 := fun j => hT.2 75 j
        have A76 : ∀ j, (-1) ≤ τ16.2.1 76 j ∧ τ16.2.1 76 j ≤ 1499 := fun j => hT.2 76 j
        have A77 : ∀ j, (-1001) ≤ τ16.2.1 77 j ∧ τ16.2.1 77 j ≤ 999 := fun j => hT.2 77 j
        have A78 : ∀ j, (-1) ≤ τ16.2.1 78 j ∧ τ16.2.1 78 j ≤ 30001 := fun j => hT.2 78 j
        have A81 : ∀ j, 0 ≤ τ16.2.1 81 j ∧ τ16.2.1 81 j ≤ 1500 := fun j => hT.2 81 j
        have A82 : ∀ j, 0 ≤ τ16.2.1 82 j ∧ τ16.2.1 82 j ≤ 1500 := fun j => hT.2 82 j
        have A83 : ∀ j, 0 ≤ τ16.2.1 83 j ∧ τ16.2.1 83 j ≤ 1500 := fun j => hT.2 83 j
        have A84 : ∀ j, 0 ≤ τ16.2.1 84 j ∧ τ16.2.1 84 j ≤ 1499 := fun j => hT.2 84 j
        have A14 : ∀ j, 0 ≤ τ16.2.1 14 j ∧ τ16.2.1 14 j ≤ 30000 := fun j => hT.2 14 j
        have A16 : ∀ j, 0 ≤ τ16.2.1 16 j ∧ τ16.2.1 16 j ≤ 999 := fun j => hT.2 16 j
        have A10 : ∀ j, (-1) ≤ τ16.2.1 10 j ∧ τ16.2.1 10 j ≤ 999 := fun j => hT.2 10 j
        have v3 : 0 ≤ τ16.1 3 ∧ τ16.1 3 ≤ 1000 := hT.1 3
        have v5 : 0 ≤ τ16.1 5 ∧ τ16.1 5 ≤ 1500 := hT.1 5
        have v45 : 0 ≤ τ16.1 45 ∧ τ16.1 45 ≤ 59 := hT.1 45
        have v46 : 0 ≤ τ16.1 46 ∧ τ16.1 46 ≤ 100 := hT.1 46
        have v47 : 0 ≤ τ16.1 47 ∧ τ16.1 47 ≤ 30001 := hT.1 47
        have v48 : 0 ≤ τ16.1 48 ∧ τ16.1 48 ≤ 1500 := hT.1 48
        rw [H10, H14, H16, H71, H84, HW46, HW48] at q14_1 q14_2
        rw [HW46] at q14_3
        have ycs : y_CS σ (τ16.2.1 75) (τ16.2.1 76) n1 n2 n3 := by (rw [g76_τ16]; exact y_mk qT qF qd2 qd3 qd4 qd5 hTσ (by omega) l5 p1 p2 p3 i41_3 q14_1 q14_2 i41_4 q14_3 (by omega))
        exact l_283 ((101 - 0 : Int).toNat + 1) _ _ (show (101 - 0 : Int) < (((101 - 0 : Int).toNat + 1 : Nat) : Int) from by ((first | omega | (simp only [st_s] <;> omega) | assumption | omega | fail))) hT (show τ16.1 3 = σ.1 3 from by first | exact W3 | omega) (show τ16.1 5 = σ.1 5 from by first | exact W5 | omega) (show τ16.1 45 = σ.1 45 from by first | exact W45 | omega) (show τ16.1 46 = σ.1 46 from by first | exact W46 | omega) (show τ16.1 47 = σ.1 47 from by first | exact W47 | omega) (show τ16.1 48 = σ.1 48 from by first | exact W48 | omega) G71 G72 G73 G77 G78 G81 G82 G83 G84 G14 G16 G10 (show 0 ≤ 0 ∧ 0 ≤ (σ.1 46) from by (first | omega | (simp only [st_s] <;> omega) | assumption | omega | fail)) (show y_CS σ (τ16.2.1 75) (τ16.2.1 76) n1 n2 n3 from by (first | exact ycs | (rw [e_τ_367]; exact i283_2) | fail)) (show y_Fr (σ.1 47) n3 n1 n2 (fun z => ¬ y_FV (σ.2.1 78) (σ.2.1 77) z) (σ.2.1 72) (y_W1 (σ.1 3) (σ.2.1 71) (σ.2.1 75)) (y_W2 (σ.1 3) (σ.2.1 71) (σ.2.1 75)) (σ.2.1 78) (σ.2.1 77) (σ.2.1 83) (τ16.2.2 5) (τ16.2.2 6) from by (first | (rw [e_τ_367]; exact i283_3) | (rw [hf_τ16.2.2 5 (by decide), hf_τ16.2.2 6 (by decide)]; exact y_Fr_d i41_2 (fun x a b c d => ⟨fun z => z.2, fun z => ⟨by omega, z⟩⟩) p2) | fail)) (show ∀ s : Int, 0 ≤ s → s < 0 → ∀ q : Int, 0 ≤ q → q < 64 → (j_b (τ16.2.2 3 (61 * s + n2)) q ↔ j_b (σ.2.2 3 (61 * s + n2)) q ∨ (q = n1 ∧ 1 ≤ τ16.2.1 75 ((s * 61 + n1) * 61 + n2))) ∧ (j_b (τ16.2.2 4 (61 * s + n2)) q ↔ j_b (σ.2.2 4 (61 * s + n2)) q ∨ (q = n1 ∧ 2 ≤ τ16.2.1 75 ((s * 61 + n1) * 61 + n2))) from by (first | (intro s a b; exfalso; omega) | (rw [e_x93, e_τ_367, e_x47]; exact (y_ss i283_4 i283_5 i283_1.1 (by first | exact y_g_k (by omega) (by omega) (by omega) | exact y_g_l (by omega)) (by first | exact y_g_k (by omega) (by omega) (by omega) | exact y_g_l (by omega))).1) | fail)) (show ∀ e : Int, (∀ s : Int, 0 ≤ s → s < 0 → e ≠ 61 * s + n2) → τ16.2.2 3 e = σ.2.2 3 e ∧ τ16.2.2 4 e = σ.2.2 4 e from by (first | (rw [e_x93, e_τ_367, e_x47]; exact (y_ss i283_4 i283_5 i283_1.1 (by first | exact y_g_k (by omega) (by omega) (by omega) | exact y_g_l (by omega)) (by first | exact y_g_k (by omega) (by omega) (by omega) | exact y_g_l (by omega))).2) | (intro e h; rw [hf_τ16.2.2 3 (by decide), hf_τ16.2.2 4 (by decide), i41_6.1, i41_6.2]; exact ⟨rfl, rfl⟩) | fail))
      ·
        refine ⟨(show 0 ≤ u4_41 ∧ u4_41 < 30002 from by (first | omega | (simp only [st_s] <;> omega) | assumption | omega | fail)), ?_⟩
        intro x18 r_x18 e_x18
        have b_x18 : 0 ≤ x18 ∧ x18 ≤ 1500 := by rw [e_x18]; exact hT.2 83 _
        rw [G83] at e_x18
        refine ⟨fun c19 => ?_, fun c19 => ?_⟩
        ·
          refine ⟨(⟨by (first | omega | (simp only [st_s] <;> omega) | assumption | omega | fail), by (first | omega | (simp only [st_s] <;> omega) | assumption | omega | fail)⟩ : rg (u4_41 + 1)), ?_⟩
          exact ih_41 _ _ (show (30002 - (u4_41 + 1) : Int) < ((m_41 : Nat) : Int) from by ((first | omega | (simp only [st_s] <;> omega) | assumption | omega | fail))) hT (show τ_41.1 3 = σ.1 3 from by first | exact W3 | omega) (show τ_41.1 5 = σ.1 5 from by first | exact W5 | omega) (show τ_41.1 45 = σ.1 45 from by first | exact W45 | omega) (show τ_41.1 46 = σ.1 46 from by first | exact W46 | omega) (show τ_41.1 47 = σ.1 47 from by first | exact W47 | omega) (show τ_41.1 48 = σ.1 48 from by first | exact W48 | omega) G71 G72 G73 G77 G78 G81 G82 G83 G84 G14 G16 G10 (show 1 ≤ (u4_41 + 1) ∧ (u4_41 + 1) ≤ (σ.1 47) from by (first | omega | (simp only [st_s] <;> omega) | assumption | omega | fail)) (show y_Fr (σ.1 47) n3 n1 n2 (fun z => z < (u4_41 + 1) ∧ ¬ y_FV (σ.2.1 78) (σ.2.1 77) z) (σ.2.1 72) (y_W1 (σ.1 3) (σ.2.1 71) (σ.2.1 75)) (y_W2 (σ.1 3) (σ.2.1 71) (σ.2.1 75)) (σ.2.1 78) (σ.2.1 77) (σ.2.1 83) (τ_41.2.2 5) (τ_41.2.2 6) from by (first | exact y_Fr_d p7 (fun x a b c d => ⟨fun z => z.elim, fun z => by have := z.1; omega⟩) p2 | exact y_Fr_d i41_2 (fun x a b c d => y_D1 (fun z => by rw [z] at c d; omega)) p2 | exact y_Fr_d i41_2 (fun x a b c d => y_D1 (fun z => by rw [z]; exact q31_2.mp (by assumption))) p2 | exact y_Fr_d fs (fun x a b c d => y_D2 fv) p2 | exact y_Fr_d i137_2 (fun x a b c d => y_D2 i137_12) p2 | exact y_sk p8 v21 wr i41_2 p1 p2 p3 (by omega) i41_1.1 (by omega) (by omega) (by omega) (by omega) ((qT.2.2.1 u4_41 i41_1.1 (by omega)).2.2 (by omega)) (y_sp qT tyR i41_1.1 (by omega) (by omega)) (by rw [← e_x26, ← e_x28]; assumption) (y_BA qT v21 i41_2 i41_1.1 (by omega) (by omega) (by omega)) | fail)) (show y_B (σ.1 3) n1 n2 (u4_41 + 1) (σ.2.1 71) (fun t => y_L (y_ls (σ.1 3) (σ.2.1 71) (σ.2.1 73)) t n1 n2) (y_N1 n3 (y_hd σ) (y_nn σ) (y_f σ) (σ.2.1 72) (y_W1 (σ.1 3) (σ.2.1 71) (σ.2.1 75)) n1 n2 (σ.2.1 81)) (y_N2 n3 (y_hd σ) (y_nn σ) (y_f σ) (σ.2.1 72) (y_W1 (σ.1 3) (σ.2.1 71) (σ.2.1 75)) (y_W2 (σ.1 3) (σ.2.1 71) (σ.2.1 75)) n1 n2 (σ.2.1 81) (σ.2.1 82)) (σ.2.1 81) (τ_41.2.1 75) (τ_41.2.1 76) from by (first | exact y_B_0 p6 soS inj hlf (Or.inl ⟨by omega, rfl⟩) | exact y_B_0 p6 soS inj hlf (Or.inr ⟨by omega, by rw [show x11 + 1 = 1 from by omega, q7_1, ← e_x6]⟩) | exact y_B_n i41_3 (y_nA qF l5 i41_1.1 (by omega) (by omega)) n21 | exact y_B_n i41_3 (y_nB qT nR l5 i41_1.1 (by omega) (q21_2.mp (by assumption))) n21 | exact y_B_n i41_3 (y_nC qT nR nuR l5 i41_1.1 (by omega) (q31_2.mp (by assumption))) n21 | (rw [g75_τ37, g76_τ37]; exact y_B_n i41_3 (fun t h => by (have w := h.1; omega)) n21) | (rw [g75_τ37, g76_τ37]; exact y_B_n i41_3 (fun t h => absurd ((y_sr1 (x := x41) (k := n2) (by omega) (by omega)).mpr (by rw [e_x41]; exact (y_nD qT qF l5 fs (by omega) (by omega) i41_1.1 (by omega) (Or.inr rfl) h.1).1.mpr h.2.2)) (by assumption)) n21) | exact y_B_n i41_3 (nsk (by assumption)) n21 | (rw [q62_1, e_x61]; exact y_B_y i137_3 i137_1.1 hdi.1 hdi.2.1 hdi.2.2 inj na (fun t h => h.2.1.symm) n21 hm (by rw [← e_x110]; exact hw) (by first | exact Or.inl ⟨by (rw [← e_x61, ← q62_1, ← e_x101]; assumption), by (rw [← e_x61, ← q62_1]; exact e_x103)⟩ | exact Or.inr ⟨by (rw [← e_x61, ← q62_1, ← e_x101]; assumption), e_x105⟩)) | fail)) (show ∀ s : Int, 0 ≤ s → s < (σ.1 46) → ∀ p q : Int, 0 ≤ p → p ≤ 60 → 0 ≤ q → q ≤ 60 → ¬ (p = n1 ∧ q = n2) → τ_41.2.1 75 ((s * 61 + p) * 61 + q) = σ.2.1 75 ((s * 61 + p) * 61 + q) ∧ τ_41.2.1 76 ((s * 61 + p) * 61 + q) = σ.2.1 76 ((s * 61 + p) * 61 + q) from by (first | exact i41_4 | (intro s a b p q c d e f g; exact ⟨rfl, rfl⟩) | (rw [g75_τ37, g76_τ37]; exact i41_4) | (intro s a b p q c d e f g; have ne : (s * 61 + p) * 61 + q ≠ (x6 * 61 + n1) * 61 + n2 := (fun z => by (have s6 : s = x6 := (by omega); rw [s6] at z; exact g ⟨by omega, by omega⟩)); rw [q7_1, st_n _ _ ne]; exact ⟨rfl, rfl⟩) | (intro s a b p q c d e f g; rw [q62_1, st_n _ _ (by omega), st_n _ _ (by omega)]; exact i137_4 s a b p q c d e f g) | fail)) (show ∀ s : Int, 0 ≤ s → s < (σ.1 46) → 0 ≤ τ_41.2.1 75 ((s * 61 + n1) * 61 + n2) ∧ τ_41.2.1 75 ((s * 61 + n1) * 61 + n2) ≤ 2 from by (first | exact i41_5 | (intro s a b; have w := (p6 s a b).1; omega) | (rw [g75_τ37]; exact i41_5) | (intro s a b; have w := (p6 s a b).1; by_cases z : s = x6; (rw [q7_1, z, st_s]; rw [z, ← q7_1, ← e_x11] at w; omega); (rw [q7_1, st_n _ _ (by omega)]; omega)) | (intro s a b; by_cases z : s = x61; (rw [q62_1, z, st_s]; omega); (rw [q62_1, st_n _ _ (by omega)]; exact i137_5 s a b)) | fail)) (show τ_41.2.2 3 = σ.2.2 3 ∧ τ_41.2.2 4 = σ.2.2 4 from by (first | exact i41_6 | exact ⟨rfl, rfl⟩ | exact i137_6 | (rw [hf_τ37.2.2 3 (by decide), hf_τ37.2.2 4 (by decide)]; exact i41_6) | fail))
        ·
          refine ⟨_, K_X13_isSortNode hT (show 0 ≤ u4_41 from by (first | omega | (simp only [st_s] <;> omega) | assumption | omega | fail)) (show u4_41 < 30002 from by (first | omega | (simp only [st_s] <;> omega) | assumption | omega | fail)), ?_⟩
          intro x22 r_x22 hq
          obtain ⟨q21_1, q21_2⟩ := hq
          replace q21_1 : 0 ≤ x22 ∧ x22 ≤ 1 := q21_1
          replace q21_2 : ¬ x22 = 0 ↔ τ_41.2.1 78 u4_41 = 0 := q21_2
          rw [G78] at q21_2
          refine ⟨fun c24 => ?_, fun c24 => ?_⟩
          ·
            refine ⟨(⟨by (first | omega | (simp only [st_s] <;> omega) | assumption | omega | fail), by (first | omega | (simp only [st_s] <;> omega) | assumption | omega | fail)⟩ : rg (u4_41 + 1)), ?_⟩
            exact ih_41 _ _ (show (30002 - (u4_41 + 1) : Int) < ((m_41 : Nat) : Int) from by ((first | omega | (simp only [st_s] <;> omega) | assumption | omega | fail))) hT (show τ_41.1 3 = σ.1 3 from by first | exact W3 | omega) (show τ_41.1 5 = σ.1 5 from by first | exact W5 | omega) (show τ_41.1 45 = σ.1 45 from by first | exact W45 | omega) (show τ_41.1 46 = σ.1 46 from by first | exact W46 | omega) (show τ_41.1 47 = σ.1 47 from by first | exact W47 | omega) (show τ_41.1 48 = σ.1 48 from by first | exact W48 | omega) G71 G72 G73 G77 G78 G81 G82 G83 G84 G14 G16 G10 (show 1 ≤ (u4_41 + 1) ∧ (u4_41 + 1) ≤ (σ.1 47) from by (first | omega | (simp only [st_s] <;> omega) | assumption | omega | fail)) (show y_Fr (σ.1 47) n3 n1 n2 (fun z => z < (u4_41 + 1) ∧ ¬ y_FV (σ.2.1 78) (σ.2.1 77) z) (σ.2.1 72) (y_W1 (σ.1 3) (σ.2.1 71) (σ.2.1 75)) (y_W2 (σ.1 3) (σ.2.1 71) (σ.2.1 75)) (σ.2.1 78) (σ.2.1 77) (σ.2.1 83) (τ_41.2.2 5) (τ_41.2.2 6) from by (first | exact y_Fr_d p7 (fun x a b c d => ⟨fun z => z.elim, fun z => by have := z.1; omega⟩) p2 | exact y_Fr_d i41_2 (fun x a b c d => y_D1 (fun z => by rw [z] at c d; omega)) p2 | exact y_Fr_d i41_2 (fun x a b c d => y_D1 (fun z => by rw [z]; exact q31_2.mp (by assumption))) p2 | exact y_Fr_d fs (fun x a b c d => y_D2 fv) p2 | exact y_Fr_d i137_2 (fun x a b c d => y_D2 i137_12) p2 | exact y_sk p8 v21 wr i41_2 p1 p2 p3 (by omega) i41_1.1 (by omega) (by omega) (by omega) (by omega) ((qT.2.2.1 u4_41 i41_1.1 (by omega)).2.2 (by omega)) (y_sp qT tyR i41_1.1 (by omega) (by omega)) (by rw [← e_x26, ← e_x28]; assumption) (y_BA qT v21 i41_2 i41_1.1 (by omega) (by omega) (by omega)) | fail)) (show y_B (σ.1 3) n1 n2 (u4_41 + 1) (σ.2.1 71) (fun t => y_L (y_ls (σ.1 3) (σ.2.1 71) (σ.2.1 73)) t n1 n2) (y_N1 n3 (y_hd σ) (y_nn σ) (y_f σ) (σ.2.1 72) (y_W1 (σ.1 3) (σ.2.1 71) (σ.2.1 75)) n1 n2 (σ.2.1 81)) (y_N2 n3 (y_hd σ) (y_nn σ) (y_f σ) (σ.2.1 72) (y_W1 (σ.1 3) (σ.2.1 71) (σ.2.1 75)) (y_W2 (σ.1 3) (σ.2.1 71) (σ.2.1 75)) n1 n2 (σ.2.1 81) (σ.2.1 82)) (σ.2.1 81) (τ_41.2.1 75) (τ_41.2.1 76) from by (first | exact y_B_0 p6 soS inj hlf (Or.inl ⟨by omega, rfl⟩) | exact y_B_0 p6 soS inj hlf (Or.inr ⟨by omega, by rw [show x11 + 1 = 1 from by omega, q7_1, ← e_x6]⟩) | exact y_B_n i41_3 (y_nA qF l5 i41_1.1 (by omega) (by omega)) n21 | exact y_B_n i41_3 (y_nB qT nR l5 i41_1.1 (by omega) (q21_2.mp (by assumption))) n21 | exact y_B_n i41_3 (y_nC qT nR nuR l5 i41_1.1 (by omega) (q31_2.mp (by assumption))) n21 | (rw [g75_τ37, g76_τ37]; exact y_B_n i41_3 (fun t h => by (have w := h.1; omega)) n21) | (rw [g75_τ37, g76_τ37]; exact y_B_n i41_3 (fun t h => absurd ((y_sr1 (x := x41) (k := n2) (by omega) (by omega)).mpr (by rw [e_x41]; exact (y_nD qT qF l5 fs (by omega) (by omega) i41_1.1 (by omega) (Or.inr rfl) h.1).1.mpr h.2.2)) (by assumption)) n21) | exact y_B_n i41_3 (nsk (by assumption)) n21 | (rw [q62_1, e_x61]; exact y_B_y i137_3 i137_1.1 hdi.1 hdi.2.1 hdi.2.2 inj na (fun t h => h.2.1.symm) n21 hm (by rw [← e_x110]; exact hw) (by first | exact Or.inl ⟨by (rw [← e_x61, ← q62_1, ← e_x101]; assumption), by (rw [← e_x61, ← q62_1]; exact e_x103)⟩ | exact Or.inr ⟨by (rw [← e_x61, ← q62_1, ← e_x101]; assumption), e_x105⟩)) | fail)) (show ∀ s : Int, 0 ≤ s → s < (σ.1 46) → ∀ p q : Int, 0 ≤ p → p ≤ 60 → 0 ≤ q → q ≤ 60 → ¬ (p = n1 ∧ q = n2) → τ_41.2.1 75 ((s * 61 + p) * 61 + q) = σ.2.1 75 ((s * 61 + p) * 61 + q) ∧ τ_41.2.1 76 ((s * 61 + p) * 61 + q) = σ.2.1 76 ((s * 61 + p) * 61 + q) from by (first | exact i41_4 | (intro s a b p q c d e f g; exact ⟨rfl, rfl⟩) | (rw [g75_τ37, g76_τ37]; exact i41_4) | (intro s a b p q c d e f g; have ne : (s * 61 + p) * 61 + q ≠ (x6 * 61 + n1) * 61 + n2 := (fun z => by (have s6 : s = x6 := (by omega); rw [s6] at z; exact g ⟨by omega, by omega⟩)); rw [q7_1, st_n _ _ ne]; exact ⟨rfl, rfl⟩) | (intro s a b p q c d e f g; rw [q62_1, st_n _ _ (by omega), st_n _ _ (by omega)]; exact i137_4 s a b p q c d e f g) | fail)) (show ∀ s : Int, 0 ≤ s → s < (σ.1 46) → 0 ≤ τ_41.2.1 75 ((s * 61 + n1) * 61 + n2) ∧ τ_41.2.1 75 ((s * 61 + n1) * 61 + n2) ≤ 2 from by (first | exact i41_5 | (intro s a b; have w := (p6 s a b).1; omega) | (rw [g75_τ37]; exact i41_5) | (intro s a b; have w := (p6 s a b).1; by_cases z : s = x6; (rw [q7_1, z, st_s]; rw [z, ← q7_1, ← e_x11] at w; omega); (rw [q7_1, st_n _ _ (by omega)]; omega)) | (intro s a b; by_cases z : s = x61; (rw [q62_1, z, st_s]; omega); (rw [q62_1, st_n _ _ (by omega)]; exact i137_5 s a b)) | fail)) (show τ_41.2.2 3 = σ.2.2 3 ∧ τ_41.2.2 4 = σ.2.2 4 from by (first | exact i41_6 | exact ⟨rfl, rfl⟩ | exact i137_6 | (rw [hf_τ37.2.2 3 (by decide), hf_τ37.2.2 4 (by decide)]; exact i41_6) | fail))
          ·
            intro x26 r_x26 e_x26
            have b_x26 : (-1) ≤ x26 ∧ x26 ≤ 30001 := by rw [e_x26]; exact hT.2 78 _
            rw [G78] at e_x26
            refine ⟨(show 0 ≤ x26 ∧ x26 < 30002 from by (first | omega | (simp only [st_s] <;> omega) | assumption | omega | fail)), ?_⟩
            intro x28 e_x28
            have nsk : x28 = 0 → ∀ t : Int, ¬ (y_N1 n3 (y_hd σ) (y_nn σ) (y_f σ) (σ.2.1 72) (y_W1 (σ.1 3) (σ.2.1 71) (σ.2.1 75)) n1 n2 (σ.2.1 81)) u4_41 t := fun z t h => by (by_cases fv : y_FV (σ.2.1 78) (σ.2.1 77) u4_41; (exact y_nC qT nR nuR l5 i41_1.1 (by omega) fv t h); (exact y_nE qT qF l5 i41_2 (y_sk p8 v21 wr i41_2 p1 p2 p3 (by omega) i41_1.1 (by omega) (by omega) (by have w := ux (by omega); omega) (by have w := ux (by omega); omega) ((qT.2.2.1 u4_41 i41_1.1 (by omega)).2.2 (by have w := ux (by omega); omega)) (y_sp qT tyR i41_1.1 (by omega) (by have w := ux (by omega); omega)) (by rw [← e_x26, ← e_x28]; exact z) (y_BA qT v21 i41_2 i41_1.1 (by omega) (by omega) (by have w := ux (by omega); omega))) (by omega) (by omega) i41_1.1 (by omega) (fun w => by have w1 := w.1; omega) ⟨by omega, fv⟩ t h))
            refine ⟨fun c29 => ?_, fun c29 => ?_⟩
            ·
              refine ⟨(⟨by (first | omega | (simp only [st_s] <;> omega) | assumption | omega | fail), by (first | omega | (simp only [st_s] <;> omega) | assumption | omega | fail)⟩ : rg (u4_41 + 1)), ?_⟩
              exact ih_41 _ _ (show (30002 - (u4_41 + 1) : Int) < ((m_41 : Nat) : Int) from by ((first | omega | (simp only [st_s] <;> omega) | assumption | omega | fail))) hT (show τ_41.1 3 = σ.1 3 from by first | exact W3 | omega) (show τ_41.1 5 = σ.1 5 from by first | exact W5 | omega) (show τ_41.1 45 = σ.1 45 from by first | exact W45 | omega) (show τ_41.1 46 = σ.1 46 from by first | exact W46 | omega) (show τ_41.1 47 = σ.1 47 from by first | exact W47 | omega) (show τ_41.1 48 = σ.1 48 from by first | exact W48 | omega) G71 G72 G73 G77 G78 G81 G82 G83 G84 G14 G16 G10 (show 1 ≤ (u4_41 + 1) ∧ (u4_41 + 1) ≤ (σ.1 47) from by (first | omega | (simp only [st_s] <;> omega) | assumption | omega | fail)) (show y_Fr (σ.1 47) n3 n1 n2 (fun z => z < (u4_41 + 1) ∧ ¬ y_FV (σ.2.1 78) (σ.2.1 77) z) (σ.2.1 72) (y_W1 (σ.1 3) (σ.2.1 71) (σ.2.1 75)) (y_W2 (σ.1 3) (σ.2.1 71) (σ.2.1 75)) (σ.2.1 78) (σ.2.1 77) (σ.2.1 83) (τ_41.2.2 5) (τ_41.2.2 6) from by (first | exact y_Fr_d p7 (fun x a b c d => ⟨fun z => z.elim, fun z => by have := z.1; omega⟩) p2 | exact y_Fr_d i41_2 (fun x a b c d => y_D1 (fun z => by rw [z] at c d; omega)) p2 | exact y_Fr_d i41_2 (fun x a b c d => y_D1 (fun z => by rw [z]; exact q31_2.mp (by assumption))) p2 | exact y_Fr_d fs (fun x a b c d => y_D2 fv) p2 | exact y_Fr_d i137_2 (fun x a b c d => y_D2 i137_12) p2 | exact y_sk p8 v21 wr i41_2 p1 p2 p3 (by omega) i41_1.1 (by omega) (by omega) (by omega) (by omega) ((qT.2.2.1 u4_41 i41_1.1 (by omega)).2.2 (by omega)) (y_sp qT tyR i41_1.1 (by omega) (by omega)) (by rw [← e_x26, ← e_x28]; assumption) (y_BA qT v21 i41_2 i41_1.1 (by omega) (by omega) (by omega)) | fail)) (show y_B (σ.1 3) n1 n2 (u4_41 + 1) (σ.2.1 71) (fun t => y_L (y_ls (σ.1 3) (σ.2.1 71) (σ.2.1 73)) t n1 n2) (y_N1 n3 (y_hd σ) (y_nn σ) (y_f σ) (σ.2.1 72) (y_W1 (σ.1 3) (σ.2.1 71) (σ.2.1 75)) n1 n2 (σ.2.1 81)) (y_N2 n3 (y_hd σ) (y_nn σ) (y_f σ) (σ.2.1 72) (y_W1 (σ.1 3) (σ.2.1 71) (σ.2.1 75)) (y_W2 (σ.1 3) (σ.2.1 71) (σ.2.1 75)) n1 n2 (σ.2.1 81) (σ.2.1 82)) (σ.2.1 81) (τ_41.2.1 75) (τ_41.2.1 76) from by (first | exact y_B_0 p6 soS inj hlf (Or.inl ⟨by omega, rfl⟩) | exact y_B_0 p6 soS inj hlf (Or.inr ⟨by omega, by rw [show x11 + 1 = 1 from by omega, q7_1, ← e_x6]⟩) | exact y_B_n i41_3 (y_nA qF l5 i41_1.1 (by omega) (by omega)) n21 | exact y_B_n i41_3 (y_nB qT nR l5 i41_1.1 (by omega) (q21_2.mp (by assumption))) n21 | exact y_B_n i41_3 (y_nC qT nR nuR l5 i41_1.1 (by omega) (q31_2.mp (by assumption))) n21 | (rw [g75_τ37, g76_τ37]; exact y_B_n i41_3 (fun t h => by (have w := h.1; omega)) n21) | (rw [g75_τ37, g76_τ37]; exact y_B_n i41_3 (fun t h => absurd ((y_sr1 (x := x41) (k := n2) (by omega) (by omega)).mpr (by rw [e_x41]; exact (y_nD qT qF l5 fs (by omega) (by omega) i41_1.1 (by omega) (Or.inr rfl) h.1).1.mpr h.2.2)) (by assumption)) n21) | exact y_B_n i41_3 (nsk (by assumption)) n21 | (rw [q62_1, e_x61]; exact y_B_y i137_3 i137_1.1 hdi.1 hdi.2.1 hdi.2.2 inj na (fun t h => h.2.1.symm) n21 hm (by rw [← e_x110]; exact hw) (by first | exact Or.inl ⟨by (rw [← e_x61, ← q62_1, ← e_x101]; assumption), by (rw [← e_x61, ← q62_1]; exact e_x103)⟩ | exact Or.inr ⟨by (rw [← e_x61, ← q62_1, ← e_x101]; assumption), e_x105⟩)) | fail)) (show ∀ s : Int, 0 ≤ s → s < (σ.1 46) → ∀ p q : Int, 0 ≤ p → p ≤ 60 → 0 ≤ q → q ≤ 60 → ¬ (p = n1 ∧ q = n2) → τ_41.2.1 75 ((s * 61 + p) * 61 + q) = σ.2.1 75 ((s * 61 + p) * 61 + q) ∧ τ_41.2.1 76 ((s * 61 + p) * 61 + q) = σ.2.1 76 ((s * 61 + p) * 61 + q) from by (first | exact i41_4 | (intro s a b p q c d e f g; exact ⟨rfl, rfl⟩) | (rw [g75_τ37, g76_τ37]; exact i41_4) | (intro s a b p q c d e f g; have ne : (s * 61 + p) * 61 + q ≠ (x6 * 61 + n1) * 61 + n2 := (fun z => by (have s6 : s = x6 := (by omega); rw [s6] at z; exact g ⟨by omega, by omega⟩)); rw [q7_1, st_n _ _ ne]; exact ⟨rfl, rfl⟩) | (intro s a b p q c d e f g; rw [q62_1, st_n _ _ (by omega), st_n _ _ (by omega)]; exact i137_4 s a b p q c d e f g) | fail)) (show ∀ s : Int, 0 ≤ s → s < (σ.1 46) → 0 ≤ τ_41.2.1 75 ((s * 61 + n1) * 61 + n2) ∧ τ_41.2.1 75 ((s * 61 + n1) * 61 + n2) ≤ 2 from by (first | exact i41_5 | (intro s a b; have w := (p6 s a b).1; omega) | (rw [g75_τ37]; exact i41_5) | (intro s a b; have w := (p6 s a b).1; by_cases z : s = x6; (rw [q7_1, z, st_s]; rw [z, ← q7_1, ← e_x11] at w; omega); (rw [q7_1, st_n _ _ (by omega)]; omega)) | (intro s a b; by_cases z : s = x61; (rw [q62_1, z, st_s]; omega); (rw [q62_1, st_n _ _ (by omega)]; exact i137_5 s a b)) | fail)) (show τ_41.2.2 3 = σ.2.2 3 ∧ τ_41.2.2 4 = σ.2.2 4 from by (first | exact i41_6 | exact ⟨rfl, rfl⟩ | exact i137_6 | (rw [hf_τ37.2.2 3 (by decide), hf_τ37.2.2 4 (by decide)]; exact i41_6) | fail))
            ·
              refine ⟨_, K_X13_isFirstVariable hT (show 0 ≤ u4_41 from by (first | omega | (simp only [st_s] <;> omega) | assumption | omega | fail)) (show u4_41 < 30002 from by (first | omega | (simp only [st_s] <;> omega) | assumption | omega | fail)) (show 1 ≤ τ_41.2.1 78 u4_41 from by (rw [G78]; omega)), ?_⟩
              intro x32 r_x32 hq
              obtain ⟨q31_1, q31_2⟩ := hq
              replace q31_1 : 0 ≤ x32 ∧ x32 ≤ 1 := q31_1
              replace q31_2 : ¬ x32 = 0 ↔ y_FV (τ_41.2.1 78) (τ_41.2.1 77) u4_41 := q31_2
              rw [G77, G78] at q31_2
              refine ⟨fun c34 => ?_, fun c34 => ?_⟩
              ·
                have H71 := G71
                have H72 := G72
                have H77 := G77
                have H78 := G78
                have fv : ¬ y_FV (σ.2.1 78) (σ.2.1 77) u4_41 := fun q => (q31_2.mpr q) (by omega)
                have ux2 := ux (by omega)
                have ul := (qT.2.2.1 u4_41 i41_1.1 (by omega)).2.2 (by omega)
                refine ⟨_, K_X13_goTo hT (show 1 ≤ u4_41 from by (first | omega | (simp only [st_s] <;> omega) | assumption | omega | fail)) (show u4_41 < 30002 from by (first | omega | (simp only [st_s] <;> omega) | assumption | omega | fail)) (show 0 ≤ τ_41.2.1 78 u4_41 from by (rw [G78]; omega)) (show τ_41.2.1 77 u4_41 < 0 → τ_41.2.1 77 u4_41 ≤ -2 from by (rw [G77]; intro z; have w := y_sp qT tyR i41_1.1 (by omega) (by omega) z; omega)) (show 1 ≤ n2 ∧ n2 ≤ 59 from by (first | omega | (simp only [st_s] <;> omega) | assumption | omega | fail)) (show ∀ q : Int, 0 ≤ q → q < 64 → j_b (τ_41.2.2 6 (τ_41.2.1 78 u4_41)) q → j_b (τ_41.2.2 5 (τ_41.2.1 78 u4_41)) q from by (rw [G78]; exact y_BA qT v21 i41_2 i41_1.1 (by omega) (by omega) (by omega))) (show τ_41.2.1 77 u4_41 < 0 → 0 ≤ (τ_41.2.1 71 (-2 - τ_41.2.1 77 u4_41)) → ∀ q : Int, 0 ≤ q → q < 64 → j_b (τ_41.2.2 4 (61 * (τ_41.2.1 71 (-2 - τ_41.2.1 77 u4_41)) + n2)) q → j_b (τ_41.2.2 3 (61 * (τ_41.2.1 71 (-2 - τ_41.2.1 77 u4_41)) + n2)) q from by (rw [G77, G71, i41_6.1, i41_6.2]; intro a b; have w := y_sp qT tyR i41_1.1 (by omega) (by omega) a; exact y_S21 p8 v21 w.1 w.2 b (by omega) p3)), ?_⟩
                intro τ37 hn_τ37 hf_τ37 hq
                obtain ⟨hT, q35_1⟩ := hq
                replace q35_1 : y_gt u4_41 n2 (y_g1 n2 (τ_41.2.1 77 u4_41) (τ_41.2.1 71 (-2 - τ_41.2.1 77 u4_41)) (τ_41.2.1 72) (τ_41.2.2 5 (τ_41.2.1 78 u4_41)) (τ_41.2.2 3)) (y_g2 n2 (τ_41.2.1 77 u4_41) (τ_41.2.1 71 (-2 - τ_41.2.1 77 u4_41)) (τ_41.2.1 72) (τ_41.2.2 5 (τ_41.2.1 78 u4_41)) (τ_41.2.2 6 (τ_41.2.1 78 u4_41)) (τ_41.2.2 3) (τ_41.2.2 4)) (τ_41.2.2 5) (τ_41.2.2 6) (τ37.2.2 5) (τ37.2.2 6) := q35_1
                have w3_τ37 : τ37.1 3 = τ_41.1 3 := hf_τ37.1 3 (by decide)
                have w5_τ37 : τ37.1 5 = τ_41.1 5 := hf_τ37.1 5 (by decide)
                have w45_τ37 : τ37.1 45 = τ_41.1 45 := hf_τ37.1 45 (by decide)
                have w46_τ37 : τ37.1 46 = τ_41.1 46 := hf_τ37.1 46 (by decide)
                have w47_τ37 : τ37.1 47 = τ_41.1 47 := hf_τ37.1 47 (by decide)
                have w48_τ37 : τ37.1 48 = τ_41.1 48 := hf_τ37.1 48 (by decide)
                have g71_τ37 : τ37.2.1 71 = τ_41.2.1 71 := hf_τ37.2.1 71 (by decide)
                have g72_τ37 : τ37.2.1 72 = τ_41.2.1 72 := hf_τ37.2.1 72 (by decide)
                have g73_τ37 : τ37.2.1 73 = τ_41.2.1 73 := hf_τ37.2.1 73 (by decide)
                have g75_τ37 : τ37.2.1 75 = τ_41.2.1 75 := hf_τ37.2.1 75 (by decide)
                have g76_τ37 : τ37.2.1 76 = τ_41.2.1 76 := hf_τ37.2.1 76 (by decide)
                have g77_τ37 : τ37.2.1 77 = τ_41.2.1 77 := hf_τ37.2.1 77 (by decide)
                have g78_τ37 : τ37.2.1 78 = τ_41.2.1 78 := hf_τ37.2.1 78 (by decide)
                have g81_τ37 : τ37.2.1 81 = τ_41.2.1 81 := hf_τ37.2.1 81 (by decide)
                have g82_τ37 : τ37.2.1 82 = τ_41.2.1 82 := hf_τ37.2.1 82 (by decide)
                have g83_τ37 : τ37.2.1 83 = τ_41.2.1 83 := hf_τ37.2.1 83 (by decide)
                have g84_τ37 : τ37.2.1 84 = τ_41.2.1 84 := hf_τ37.2.1 84 (by decide)
                have g14_τ37 : τ37.2.1 14 = τ_41.2.1 14 := hf_τ37.2.1 14 (by decide)
                have g16_τ37 : τ37.2.1 16 = τ_41.2.1 16 := hf_τ37.2.1 16 (by decide)
                have g10_τ37 : τ37.2.1 10 = τ_41.2.1 10 := hf_τ37.2.1 10 (by decide)
                have W3 : τ37.1 3 = σ.1 3 := by first | exact w3_τ37.trans W3 | omega
                have W5 : τ37.1 5 = σ.1 5 := by first | exact w5_τ37.trans W5 | omega
                have W45 : τ37.1 45 = σ.1 45 := by first | exact w45_τ37.trans W45 | omega
                have W46 : τ37.1 46 = σ.1 46 := by first | exact w46_τ37.trans W46 | omega
                have W47 : τ37.1 47 = σ.1 47 := by first | exact w47_τ37.trans W47 | omega
                have W48 : τ37.1 48 = σ.1 48 := by first | exact w48_τ37.trans W48 | omega
                have G71 : τ37.2.1 71 = σ.2.1 71 := (g71_τ37).trans G71
                have G72 : τ37.2.1 72 = σ.2.1 72 := (g72_τ37).trans G72
                have G73 : τ37.2.1 73 = σ.2.1 73 := (g73_τ37).trans G73
                have G77 : τ37.2.1 77 = σ.2.1 77 := (g77_τ37).trans G77
                have G78 : τ37.2.1 78 = σ.2.1 78 := (g78_τ37).trans G78
                have G81 : τ37.2.1 81 = σ.2.1 81 := (g81_τ37).trans G81
                have G82 : τ37.2.1 82 = σ.2.1 82 := (g82_τ37).trans G82
                have G83 : τ37.2.1 83 = σ.2.1 83 := (g83_τ37).trans G83
                have G84 : τ37.2.1 84 = σ.2.1 84 := (g84_τ37).trans G84
                have G14 : τ37.2.1 14 = σ.2.1 14 := (g14_τ37).trans G14
                have G16 : τ37.2.1 16 = σ.2.1 16 := (g16_τ37).trans G16
                have G10 : τ37.2.1 10 = σ.2.1 10 := (g10_τ37).trans G10
                have A71 : ∀ j, (-1) ≤ τ37.2.1 71 j ∧ τ37.2.1 71 j ≤ 99 := fun j => hT.2 71 j
                have A72 : ∀ j, 0 ≤ τ37.2.1 72 j ∧ τ37.2.1 72 j ≤ 999 := fun j => hT.2 72 j
                have A73 : ∀ j, (-1) ≤ τ37.2.1 73 j ∧ τ37.2.1 73 j ≤ 99 := fun j => hT.2 73 j
                have A75 : ∀ j, 0 ≤ τ37.2.1 75 j ∧ τ37.2.1 75 j ≤ 3 := fun j => hT.2 75 j
                have A76 : ∀ j, (-1) ≤ τ37.2.1 76 j ∧ τ37.2.1 76 j ≤ 1499 := fun j => hT.2 76 j
                have A77 : ∀ j, (-1001) ≤ τ37.2.1 77 j ∧ τ37.2.1 77 j ≤ 999 := fun j => hT.2 77 j
                have A78 : ∀ j, (-1) ≤ τ37.2.1 78 j ∧ τ37.2.1 78 j ≤ 30001 := fun j => hT.2 78 j
                have A81 : ∀ j, 0 ≤ τ37.2.1 81 j ∧ τ37.2.1 81 j ≤ 1500 := fun j => hT.2 81 j
                have A82 : ∀ j, 0 ≤ τ37.2.1 82 j ∧ τ37.2.1 82 j ≤ 1500 := fun j => hT.2 82 j
                have A83 : ∀ j, 0 ≤ τ37.2.1 83 j ∧ τ37.2.1 83 j ≤ 1500 := fun j => hT.2 83 j
                have A84 : ∀ j, 0 ≤ τ37.2.1 84 j ∧ τ37.2.1 84 j ≤ 1499 := fun j => hT.2 84 j
                have A14 : ∀ j, 0 ≤ τ37.2.1 14 j ∧ τ37.2.1 14 j ≤ 30000 := fun j => hT.2 14 j
                have A16 : ∀ j, 0 ≤ τ37.2.1 16 j ∧ τ37.2.1 16 j ≤ 999 := fun j => hT.2 16 j
                have A10 : ∀ j, (-1) ≤ τ37.2.1 10 j ∧ τ37.2.1 10 j ≤ 999 := fun j => hT.2 10 j
                have v3 : 0 ≤ τ37.1 3 ∧ τ37.1 3 ≤ 1000 := hT.1 3
                have v5 : 0 ≤ τ37.1 5 ∧ τ37.1 5 ≤ 1500 := hT.1 5
                have v45 : 0 ≤ τ37.1 45 ∧ τ37.1 45 ≤ 59 := hT.1 45
                have v46 : 0 ≤ τ37.1 46 ∧ τ37.1 46 ≤ 100 := hT.1 46
                have v47 : 0 ≤ τ37.1 47 ∧ τ37.1 47 ≤ 30001 := hT.1 47
                have v48 : 0 ≤ τ37.1 48 ∧ τ37.1 48 ≤ 1500 := hT.1 48
                rw [H71, H72, H77, H78, i41_6.1, i41_6.2] at q35_1
                have fs := y_Fr_s (D := fun z => z < u4_41 ∧ ¬ y_FV (σ.2.1 78) (σ.2.1 77) z) p8 v21 wr i41_2 p1 p2 p3 (by omega) i41_1.1 (by omega) (by omega) (by omega) (by omega) ul (Or.inl fv) (y_sp qT tyR i41_1.1 (by omega) (by omega)) q35_1
                intro x38 r_x38 e_x38
                have b_x38 : 0 ≤ x38 ∧ x38 ≤ 1500 := by rw [e_x38]; exact hT.2 81 _
                rw [G81] at e_x38
                refine ⟨fun c39 => ?_, fun c39 => ?_⟩
                ·
                  refine ⟨(⟨by (first | omega | (simp only [st_s] <;> omega) | assumption | omega | fail), by (first | omega | (simp only [st_s] <;> omega) | assumption | omega | fail)⟩ : rg (u4_41 + 1)), ?_⟩
                  exact ih_41 _ _ (show (30002 - (u4_41 + 1) : Int) < ((m_41 : Nat) : Int) from by ((first | omega | (simp only [st_s] <;> omega) | assumption | omega | fail))) hT (show τ37.1 3 = σ.1 3 from by first | exact W3 | omega) (show τ37.1 5 = σ.1 5 from by first | exact W5 | omega) (show τ37.1 45 = σ.1 45 from by first | exact W45 | omega) (show τ37.1 46 = σ.1 46 from by first | exact W46 | omega) (show τ37.1 47 = σ.1 47 from by first | exact W47 | omega) (show τ37.1 48 = σ.1 48 from by first | exact W48 | omega) G71 G72 G73 G77 G78 G81 G82 G83 G84 G14 G16 G10 (show 1 ≤ (u4_41 + 1) ∧ (u4_41 + 1) ≤ (σ.1 47) from by (first | omega | (simp only [st_s] <;> omega) | assumption | omega | fail)) (show y_Fr (σ.1 47) n3 n1 n2 (fun z => z < (u4_41 + 1) ∧ ¬ y_FV (σ.2.1 78) (σ.2.1 77) z) (σ.2.1 72) (y_W1 (σ.1 3) (σ.2.1 71) (σ.2.1 75)) (y_W2 (σ.1 3) (σ.2.1 71) (σ.2.1 75)) (σ.2.1 78) (σ.2.1 77) (σ.2.1 83) (τ37.2.2 5) (τ37.2.2 6) from by (first | exact y_Fr_d p7 (fun x a b c d => ⟨fun z => z.elim, fun z => by have := z.1; omega⟩) p2 | exact y_Fr_d i41_2 (fun x a b c d => y_D1 (fun z => by rw [z] at c d; omega)) p2 | exact y_Fr_d i41_2 (fun x a b c d => y_D1 (fun z => by rw [z]; exact q31_2.mp (by assumption))) p2 | exact y_Fr_d fs (fun x a b c d => y_D2 fv) p2 | exact y_Fr_d i137_2 (fun x a b c d => y_D2 i137_12) p2 | exact y_sk p8 v21 wr i41_2 p1 p2 p3 (by omega) i41_1.1 (by omega) (by omega) (by omega) (by omega) ((qT.2.2.1 u4_41 i41_1.1 (by omega)).2.2 (by omega)) (y_sp qT tyR i41_1.1 (by omega) (by omega)) (by rw [← e_x26, ← e_x28]; assumption) (y_BA qT v21 i41_2 i41_1.1 (by omega) (by omega) (by omega)) | fail)) (show y_B (σ.1 3) n1 n2 (u4_41 + 1) (σ.2.1 71) (fun t => y_L (y_ls (σ.1 3) (σ.2.1 71) (σ.2.1 73)) t n1 n2) (y_N1 n3 (y_hd σ) (y_nn σ) (y_f σ) (σ.2.1 72) (y_W1 (σ.1 3) (σ.2.1 71) (σ.2.1 75)) n1 n2 (σ.2.1 81)) (y_N2 n3 (y_hd σ) (y_nn σ) (y_f σ) (σ.2.1 72) (y_W1 (σ.1 3) (σ.2.1 71) (σ.2.1 75)) (y_W2 (σ.1 3) (σ.2.1 71) (σ.2.1 75)) n1 n2 (σ.2.1 81) (σ.2.1 82)) (σ.2.1 81) (τ37.2.1 75) (τ37.2.1 76) from by (first | exact y_B_0 p6 soS inj hlf (Or.inl ⟨by omega, rfl⟩) | exact y_B_0 p6 soS inj hlf (Or.inr ⟨by omega, by rw [show x11 + 1 = 1 from by omega, q7_1, ← e_x6]⟩) | exact y_B_n i41_3 (y_nA qF l5 i41_1.1 (by omega) (by omega)) n21 | exact y_B_n i41_3 (y_nB qT nR l5 i41_1.1 (by omega) (q21_2.mp (by assumption))) n21 | exact y_B_n i41_3 (y_nC qT nR nuR l5 i41_1.1 (by omega) (q31_2.mp (by assumption))) n21 | (rw [g75_τ37, g76_τ37]; exact y_B_n i41_3 (fun t h => by (have w := h.1; omega)) n21) | (rw [g75_τ37, g76_τ37]; exact y_B_n i41_3 (fun t h => absurd ((y_sr1 (x := x41) (k := n2) (by omega) (by omega)).mpr (by rw [e_x41]; exact (y_nD qT qF l5 fs (by omega) (by omega) i41_1.1 (by omega) (Or.inr rfl) h.1).1.mpr h.2.2)) (by assumption)) n21) | exact y_B_n i41_3 (nsk (by assumption)) n21 | (rw [q62_1, e_x61]; exact y_B_y i137_3 i137_1.1 hdi.1 hdi.2.1 hdi.2.2 inj na (fun t h => h.2.1.symm) n21 hm (by rw [← e_x110]; exact hw) (by first | exact Or.inl ⟨by (rw [← e_x61, ← q62_1, ← e_x101]; assumption), by (rw [← e_x61, ← q62_1]; exact e_x103)⟩ | exact Or.inr ⟨by (rw [← e_x61, ← q62_1, ← e_x101]; assumption), e_x105⟩)) | fail)) (show ∀ s : Int, 0 ≤ s → s < (σ.1 46) → ∀ p q : Int, 0 ≤ p → p ≤ 60 → 0 ≤ q → q ≤ 60 → ¬ (p = n1 ∧ q = n2) → τ37.2.1 75 ((s * 61 + p) * 61 + q) = σ.2.1 75 ((s * 61 + p) * 61 + q) ∧ τ37.2.1 76 ((s * 61 + p) * 61 + q) = σ.2.1 76 ((s * 61 + p) * 61 + q) from by (first | exact i41_4 | (intro s a b p q c d e f g; exact ⟨rfl, rfl⟩) | (rw [g75_τ37, g76_τ37]; exact i41_4) | (intro s a b p q c d e f g; have ne : (s * 61 + p) * 61 + q ≠ (x6 * 61 + n1) * 61 + n2 := (fun z => by (have s6 : s = x6 := (by omega); rw [s6] at z; exact g ⟨by omega, by omega⟩)); rw [q7_1, st_n _ _ ne]; exact ⟨rfl, rfl⟩) | (intro s a b p q c d e f g; rw [q62_1, st_n _ _ (by omega), st_n _ _ (by omega)]; exact i137_4 s a b p q c d e f g) | fail)) (show ∀ s : Int, 0 ≤ s → s < (σ.1 46) → 0 ≤ τ37.2.1 75 ((s * 61 + n1) * 61 + n2) ∧ τ37.2.1 75 ((s * 61 + n1) * 61 + n2) ≤ 2 from by (first | exact i41_5 | (intro s a b; have w := (p6 s a b).1; omega) | (rw [g75_τ37]; exact i41_5) | (intro s a b; have w := (p6 s a b).1; by_cases z : s = x6; (rw [q7_1, z, st_s]; rw [z, ← q7_1, ← e_x11] at w; omega); (rw [q7_1, st_n _ _ (by omega)]; omega)) | (intro s a b; by_cases z : s = x61; (rw [q62_1, z, st_s]; omega); (rw [q62_1, st_n _ _ (by omega)]; exact i137_5 s a b)) | fail)) (show τ37.2.2 3 = σ.2.2 3 ∧ τ37.2.2 4 = σ.2.2 4 from by (first | exact i41_6 | exact ⟨rfl, rfl⟩ | exact i137_6 | (rw [hf_τ37.2.2 3 (by decide), hf_τ37.2.2 4 (by decide)]; exact i41_6) | fail))
                ·
                  intro x41 e_x41
                  refine ⟨fun c42 => ?_, fun c42 => ?_⟩
                  ·
                    refine ⟨(⟨by (first | omega | (simp only [st_s] <;> omega) | assumption | omega | fail), by (first | omega | (simp only [st_s] <;> omega) | assumption | omega | fail)⟩ : rg (u4_41 + 1)), ?_⟩
                    exact ih_41 _ _ (show (30002 - (u4_41 + 1) : Int) < ((m_41 : Nat) : Int) from by ((first | omega | (simp only [st_s] <;> omega) | assumption | omega | fail))) hT (show τ37.1 3 = σ.1 3 from by first | exact W3 | omega) (show τ37.1 5 = σ.1 5 from by first | exact W5 | omega) (show τ37.1 45 = σ.1 45 from by first | exact W45 | omega) (show τ37.1 46 = σ.1 46 from by first | exact W46 | omega) (show τ37.1 47 = σ.1 47 from by first | exact W47 | omega) (show τ37.1 48 = σ.1 48 from by first | exact W48 | omega) G71 G72 G73 G77 G78 G81 G82 G83 G84 G14 G16 G10 (show 1 ≤ (u4_41 + 1) ∧ (u4_41 + 1) ≤ (σ.1 47) from by (first | omega | (simp only [st_s] <;> omega) | assumption | omega | fail)) (show y_Fr (σ.1 47) n3 n1 n2 (fun z => z < (u4_41 + 1) ∧ ¬ y_FV (σ.2.1 78) (σ.2.1 77) z) (σ.2.1 72) (y_W1 (σ.1 3) (σ.2.1 71) (σ.2.1 75)) (y_W2 (σ.1 3) (σ.2.1 71) (σ.2.1 75)) (σ.2.1 78) (σ.2.1 77) (σ.2.1 83) (τ37.2.2 5) (τ37.2.2 6) from by (first | exact y_Fr_d p7 (fun x a b c d => ⟨fun z => z.elim, fun z => by have := z.1; omega⟩) p2 | exact y_Fr_d i41_2 (fun x a b c d => y_D1 (fun z => by rw [z] at c d; omega)) p2 | exact y_Fr_d i41_2 (fun x a b c d => y_D1 (fun z => by rw [z]; exact q31_2.mp (by assumption))) p2 | exact y_Fr_d fs (fun x a b c d => y_D2 fv) p2 | exact y_Fr_d i137_2 (fun x a b c d => y_D2 i137_12) p2 | exact y_sk p8 v21 wr i41_2 p1 p2 p3 (by omega) i41_1.1 (by omega) (by omega) (by omega) (by omega) ((qT.2.2.1 u4_41 i41_1.1 (by omega)).2.2 (by omega)) (y_sp qT tyR i41_1.1 (by omega) (by omega)) (by rw [← e_x26, ← e_x28]; assumption) (y_BA qT v21 i41_2 i41_1.1 (by omega) (by omega) (by omega)) | fail)) (show y_B (σ.1 3) n1 n2 (u4_41 + 1) (σ.2.1 71) (fun t => y_L (y_ls (σ.1 3) (σ.2.1 71) (σ.2.1 73)) t n1 n2) (y_N1 n3 (y_hd σ) (y_nn σ) (y_f σ) (σ.2.1 72) (y_W1 (σ.1 3) (σ.2.1 71) (σ.2.1 75)) n1 n2 (σ.2.1 81)) (y_N2 n3 (y_hd σ) (y_nn σ) (y_f σ) (σ.2.1 72) (y_W1 (σ.1 3) (σ.2.1 71) (σ.2.1 75)) (y_W2 (σ.1 3) (σ.2.1 71) (σ.2.1 75)) n1 n2 (σ.2.1 81) (σ.2.1 82)) (σ.2.1 81) (τ37.2.1 75) (τ37.2.1 76) from by (first | exact y_B_0 p6 soS inj hlf (Or.inl ⟨by omega, rfl⟩) | exact y_B_0 p6 soS inj hlf (Or.inr ⟨by omega, by rw [show x11 + 1 = 1 from by omega, q7_1, ← e_x6]⟩) | exact y_B_n i41_3 (y_nA qF l5 i41_1.1 (by omega) (by omega)) n21 | exact y_B_n i41_3 (y_nB qT nR l5 i41_1.1 (by omega) (q21_2.mp (by assumption))) n21 | exact y_B_n i41_3 (y_nC qT nR nuR l5 i41_1.1 (by omega) (q31_2.mp (by assumption))) n21 | (rw [g75_τ37, g76_τ37]; exact y_B_n i41_3 (fun t h => by (have w := h.1; omega)) n21) | (rw [g75_τ37, g76_τ37]; exact y_B_n i41_3 (fun t h => absurd ((y_sr1 (x := x41) (k := n2) (by omega) (by omega)).mpr (by rw [e_x41]; exact (y_nD qT qF l5 fs (by omega) (by omega) i41_1.1 (by omega) (Or.inr rfl) h.1).1.mpr h.2.2)) (by assumption)) n21) | exact y_B_n i41_3 (nsk (by assumption)) n21 | (rw [q62_1, e_x61]; exact y_B_y i137_3 i137_1.1 hdi.1 hdi.2.1 hdi.2.2 inj na (fun t h => h.2.1.symm) n21 hm (by rw [← e_x110]; exact hw) (by first | exact Or.inl ⟨by (rw [← e_x61, ← q62_1, ← e_x101]; assumption), by (rw [← e_x61, ← q62_1]; exact e_x103)⟩ | exact Or.inr ⟨by (rw [← e_x61, ← q62_1, ← e_x101]; assumption), e_x105⟩)) | fail)) (show ∀ s : Int, 0 ≤ s → s < (σ.1 46) → ∀ p q : Int, 0 ≤ p → p ≤ 60 → 0 ≤ q → q ≤ 60 → ¬ (p = n1 ∧ q = n2) → τ37.2.1 75 ((s * 61 + p) * 61 + q) = σ.2.1 75 ((s * 61 + p) * 61 + q) ∧ τ37.2.1 76 ((s * 61 + p) * 61 + q) = σ.2.1 76 ((s * 61 + p) * 61 + q) from by (first | exact i41_4 | (intro s a b p q c d e f g; exact ⟨rfl, rfl⟩) | (rw [g75_τ37, g76_τ37]; exact i41_4) | (intro s a b p q c d e f g; have ne : (s * 61 + p) * 61 + q ≠ (x6 * 61 + n1) * 61 + n2 := (fun z => by (have s6 : s = x6 := (by omega); rw [s6] at z; exact g ⟨by omega, by omega⟩)); rw [q7_1, st_n _ _ ne]; exact ⟨rfl, rfl⟩) | (intro s a b p q c d e f g; rw [q62_1, st_n _ _ (by omega), st_n _ _ (by omega)]; exact i137_4 s a b p q c d e f g) | fail)) (show ∀ s : Int, 0 ≤ s → s < (σ.1 46) → 0 ≤ τ37.2.1 75 ((s * 61 + n1) * 61 + n2) ∧ τ37.2.1 75 ((s * 61 + n1) * 61 + n2) ≤ 2 from by (first | exact i41_5 | (intro s a b; have w := (p6 s a b).1; omega) | (rw [g75_τ37]; exact i41_5) | (intro s a b; have w := (p6 s a b).1; by_cases z : s = x6; (rw [q7_1, z, st_s]; rw [z, ← q7_1, ← e_x11] at w; omega); (rw [q7_1, st_n _ _ (by omega)]; omega)) | (intro s a b; by_cases z : s = x61; (rw [q62_1, z, st_s]; omega); (rw [q62_1, st_n _ _ (by omega)]; exact i137_5 s a b)) | fail)) (show τ37.2.2 3 = σ.2.2 3 ∧ τ37.2.2 4 = σ.2.2 4 from by (first | exact i41_6 | exact ⟨rfl, rfl⟩ | exact i137_6 | (rw [hf_τ37.2.2 3 (by decide), hf_τ37.2.2 4 (by decide)]; exact i41_6) | fail))
                  ·
                    exact l_137 ((u4_41 : Int).toNat + 1) _ _ _ (show (u4_41 : Int) < (((u4_41 : Int).toNat + 1 : Nat) : Int) from by ((first | omega | (simp only [st_s] <;> omega) | assumption | omega | fail))) hT (show τ37.1 3 = σ.1 3 from by first | exact W3 | omega) (show τ37.1 5 = σ.1 5 from by first | exact W5 | omega) (show τ37.1 45 = σ.1 45 from by first | exact W45 | omega) (show τ37.1 46 = σ.1 46 from by first | exact W46 | omega) (show τ37.1 47 = σ.1 47 from by first | exact W47 | omega) (show τ37.1 48 = σ.1 48 from by first | exact W48 | omega) G71 G72 G73 G77 G78 G81 G82 G83 G84 G14 G16 G10 (show 1 ≤ u4_41 ∧ u4_41 < (σ.1 47) from by (first | omega | (simp only [st_s] <;> omega) | assumption | omega | fail)) (show y_Fr (σ.1 47) n3 n1 n2 (fun z => (z < u4_41 ∧ ¬ y_FV (σ.2.1 78) (σ.2.1 77) z) ∨ z = u4_41) (σ.2.1 72) (y_W1 (σ.1 3) (σ.2.1 71) (σ.2.1 75)) (y_W2 (σ.1 3) (σ.2.1 71) (σ.2.1 75)) (σ.2.1 78) (σ.2.1 77) (σ.2.1 83) (τ37.2.2 5) (τ37.2.2 6) from by (first | exact fs | exact i137_2 | fail)) (show y_B (σ.1 3) n1 n2 u4_41 (σ.2.1 71) (fun t => y_L (y_ls (σ.1 3) (σ.2.1 71) (σ.2.1 73)) t n1 n2) (y_N1 n3 (y_hd σ) (y_nn σ) (y_f σ) (σ.2.1 72) (y_W1 (σ.1 3) (σ.2.1 71) (σ.2.1 75)) n1 n2 (σ.2.1 81)) (y_N2 n3 (y_hd σ) (y_nn σ) (y_f σ) (σ.2.1 72) (y_W1 (σ.1 3) (σ.2.1 71) (σ.2.1 75)) (y_W2 (σ.1 3) (σ.2.1 71) (σ.2.1 75)) n1 n2 (σ.2.1 81) (σ.2.1 82)) (σ.2.1 81) (τ37.2.1 75) (τ37.2.1 76) from by (first | exact i137_3 | (rw [g75_τ37, g76_τ37]; exact i41_3) | fail)) (show ∀ s : Int, 0 ≤ s → s < (σ.1 46) → ∀ p q : Int, 0 ≤ p → p ≤ 60 → 0 ≤ q → q ≤ 60 → ¬ (p = n1 ∧ q = n2) → τ37.2.1 75 ((s * 61 + p) * 61 + q) = σ.2.1 75 ((s * 61 + p) * 61 + q) ∧ τ37.2.1 76 ((s * 61 + p) * 61 + q) = σ.2.1 76 ((s * 61 + p) * 61 + q) from by (first | exact i137_4 | (rw [g75_τ37, g76_τ37]; exact i41_4) | fail)) (show ∀ s : Int, 0 ≤ s → s < (σ.1 46) → 0 ≤ τ37.2.1 75 ((s * 61 + n1) * 61 + n2) ∧ τ37.2.1 75 ((s * 61 + n1) * 61 + n2) ≤ 2 from by (first | exact i137_5 | (rw [g75_τ37]; exact i41_5) | fail)) (show τ37.2.2 3 = σ.2.2 3 ∧ τ37.2.2 4 = σ.2.2 4 from by (first | exact i137_6 | (rw [hf_τ37.2.2 3 (by decide), hf_τ37.2.2 4 (by decide)]; exact i41_6) | fail)) (show σ.2.1 81 u4_41 < n3 from by (first | omega | (simp only [st_s] <;> omega) | assumption | omega | fail)) (show j_b (τ37.2.2 5 u4_41) n2 from by (first | exact i137_8 | (rw [← e_x41]; exact (y_sr1 (by omega) (by omega)).mp (by assumption)) | fail)) (show ∃ k : Nat, y_pt (σ.2.1 78) (σ.2.1 77) (y_hd σ (σ.2.1 81 u4_41)) (y_f σ (σ.2.1 81 u4_41)) k u4_41 from by (first | exact k71 | exact ⟨_, (y_nP qT nR l5 i41_1.1 (by omega) (by omega)).2.1⟩ | fail)) (show 1 ≤ u4_41 ∧ u4_41 < (σ.1 47) from by (first | omega | (simp only [st_s] <;> omega) | assumption | omega | fail)) (show u4_41 + (m_41 : Int) ≥ 30002 from by (first | omega | (simp only [st_s] <;> omega) | assumption | omega | fail)) (show ¬ y_FV (σ.2.1 78) (σ.2.1 77) u4_41 from by (first | exact fv | exact i137_12 | fail)) (show σ.2.1 83 u4_41 < n3 from by (first | omega | (simp only [st_s] <;> omega) | assumption | omega | fail)) (show 1 ≤ σ.2.1 78 u4_41 from by (first | omega | (simp only [st_s] <;> omega) | assumption | omega | fail))
              ·
                refine ⟨(⟨by (first | omega | (simp only [st_s] <;> omega) | assumption | omega | fail), by (first | omega | (simp only [st_s] <;> omega) | assumption | omega | fail)⟩ : rg (u4_41 + 1)), ?_⟩
                exact ih_41 _ _ (show (30002 - (u4_41 + 1) : Int) < ((m_41 : Nat) : Int) from by ((first | omega | (simp only [st_s] <;> omega) | assumption | omega | fail))) hT (show τ_41.1 3 = σ.1 3 from by first | exact W3 | omega) (show τ_41.1 5 = σ.1 5 from by first | exact W5 | omega) (show τ_41.1 45 = σ.1 45 from by first | exact W45 | omega) (show τ_41.1 46 = σ.1 46 from by first | exact W46 | omega) (show τ_41.1 47 = σ.1 47 from by first | exact W47 | omega) (show τ_41.1 48 = σ.1 48 from by first | exact W48 | omega) G71 G72 G73 G77 G78 G81 G82 G83 G84 G14 G16 G10 (show 1 ≤ (u4_41 + 1) ∧ (u4_41 + 1) ≤ (σ.1 47) from by (first | omega | (simp only [st_s] <;> omega) | assumption | omega | fail)) (show y_Fr (σ.1 47) n3 n1 n2 (fun z => z < (u4_41 + 1) ∧ ¬ y_FV (σ.2.1 78) (σ.2.1 77) z) (σ.2.1 72) (y_W1 (σ.1 3) (σ.2.1 71) (σ.2.1 75)) (y_W2 (σ.1 3) (σ.2.1 71) (σ.2.1 75)) (σ.2.1 78) (σ.2.1 77) (σ.2.1 83) (τ_41.2.2 5) (τ_41.2.2 6) from by (first | exact y_Fr_d p7 (fun x a b c d => ⟨fun z => z.elim, fun z => by have := z.1; omega⟩) p2 | exact y_Fr_d i41_2 (fun x a b c d => y_D1 (fun z => by rw [z] at c d; omega)) p2 | exact y_Fr_d i41_2 (fun x a b c d => y_D1 (fun z => by rw [z]; exact q31_2.mp (by assumption))) p2 | exact y_Fr_d fs (fun x a b c d => y_D2 fv) p2 | exact y_Fr_d i137_2 (fun x a b c d => y_D2 i137_12) p2 | exact y_sk p8 v21 wr i41_2 p1 p2 p3 (by omega) i41_1.1 (by omega) (by omega) (by omega) (by omega) ((qT.2.2.1 u4_41 i41_1.1 (by omega)).2.2 (by omega)) (y_sp qT tyR i41_1.1 (by omega) (by omega)) (by rw [← e_x26, ← e_x28]; assumption) (y_BA qT v21 i41_2 i41_1.1 (by omega) (by omega) (by omega)) | fail)) (show y_B (σ.1 3) n1 n2 (u4_41 + 1) (σ.2.1 71) (fun t => y_L (y_ls (σ.1 3) (σ.2.1 71) (σ.2.1 73)) t n1 n2) (y_N1 n3 (y_hd σ) (y_nn σ) (y_f σ) (σ.2.1 72) (y_W1 (σ.1 3) (σ.2.1 71) (σ.2.1 75)) n1 n2 (σ.2.1 81)) (y_N2 n3 (y_hd σ) (y_nn σ) (y_f σ) (σ.2.1 72) (y_W1 (σ.1 3) (σ.2.1 71) (σ.2.1 75)) (y_W2 (σ.1 3) (σ.2.1 71) (σ.2.1 75)) n1 n2 (σ.2.1 81) (σ.2.1 82)) (σ.2.1 81) (τ_41.2.1 75) (τ_41.2.1 76) from by (first | exact y_B_0 p6 soS inj hlf (Or.inl ⟨by omega, rfl⟩) | exact y_B_0 p6 soS inj hlf (Or.inr ⟨by omega, by rw [show x11 + 1 = 1 from by omega, q7_1, ← e_x6]⟩) | exact y_B_n i41_3 (y_nA qF l5 i41_1.1 (by omega) (by omega)) n21 | exact y_B_n i41_3 (y_nB qT nR l5 i41_1.1 (by omega) (q21_2.mp (by assumption))) n21 | exact y_B_n i41_3 (y_nC qT nR nuR l5 i41_1.1 (by omega) (q31_2.mp (by assumption))) n21 | (rw [g75_τ37, g76_τ37]; exact y_B_n i41_3 (fun t h => by (have w := h.1; omega)) n21) | (rw [g75_τ37, g76_τ37]; exact y_B_n i41_3 (fun t h => absurd ((y_sr1 (x := x41) (k := n2) (by omega) (by omega)).mpr (by rw [e_x41]; exact (y_nD qT qF l5 fs (by omega) (by omega) i41_1.1 (by omega) (Or.inr rfl) h.1).1.mpr h.2.2)) (by assumption)) n21) | exact y_B_n i41_3 (nsk (by assumption)) n21 | (rw [q62_1, e_x61]; exact y_B_y i137_3 i137_1.1 hdi.1 hdi.2.1 hdi.2.2 inj na (fun t h => h.2.1.symm) n21 hm (by rw [← e_x110]; exact hw) (by first | exact Or.inl ⟨by (rw [← e_x61, ← q62_1, ← e_x101]; assumption), by (rw [← e_x61, ← q62_1]; exact e_x103)⟩ | exact Or.inr ⟨by (rw [← e_x61, ← q62_1, ← e_x101]; assumption), e_x105⟩)) | fail)) (show ∀ s : Int, 0 ≤ s → s < (σ.1 46) → ∀ p q : Int, 0 ≤ p → p ≤ 60 → 0 ≤ q → q ≤ 60 → ¬ (p = n1 ∧ q = n2) → τ_41.2.1 75 ((s * 61 + p) * 61 + q) = σ.2.1 75 ((s * 61 + p) * 61 + q) ∧ τ_41.2.1 76 ((s * 61 + p) * 61 + q) = σ.2.1 76 ((s * 61 + p) * 61 + q) from by (first | exact i41_4 | (intro s a b p q c d e f g; exact ⟨rfl, rfl⟩) | (rw [g75_τ37, g76_τ37]; exact i41_4) | (intro s a b p q c d e f g; have ne : (s * 61 + p) * 61 + q ≠ (x6 * 61 + n1) * 61 + n2 := (fun z => by (have s6 : s = x6 := (by omega); rw [s6] at z; exact g ⟨by omega, by omega⟩)); rw [q7_1, st_n _ _ ne]; exact ⟨rfl, rfl⟩) | (intro s a b p q c d e f g; rw [q62_1, st_n _ _ (by omega), st_n _ _ (by omega)]; exact i137_4 s a b p q c d e f g) | fail)) (show ∀ s : Int, 0 ≤ s → s < (σ.1 46) → 0 ≤ τ_41.2.1 75 ((s * 61 + n1) * 61 + n2) ∧ τ_41.2.1 75 ((s * 61 + n1) * 61 + n2) ≤ 2 from by (first | exact i41_5 | (intro s a b; have w := (p6 s a b).1; omega) | (rw [g75_τ37]; exact i41_5) | (intro s a b; have w := (p6 s a b).1; by_cases z : s = x6; (rw [q7_1, z, st_s]; rw [z, ← q7_1, ← e_x11] at w; omega); (rw [q7_1, st_n _ _ (by omega)]; omega)) | (intro s a b; by_cases z : s = x61; (rw [q62_1, z, st_s]; omega); (rw [q62_1, st_n _ _ (by omega)]; exact i137_5 s a b)) | fail)) (show τ_41.2.2 3 = σ.2.2 3 ∧ τ_41.2.2 4 = σ.2.2 4 from by (first | exact i41_6 | exact ⟨rfl, rfl⟩ | exact i137_6 | (rw [hf_τ37.2.2 3 (by decide), hf_τ37.2.2 4 (by decide)]; exact i41_6) | fail))
  refine ⟨(⟨by (first | omega | (simp only [st_s] <;> omega) | assumption | omega | fail), by (first | omega | (simp only [st_s] <;> omega) | assumption | omega | fail)⟩ : rg (n1 + 1)), ?_⟩
  refine ⟨fun c2 => ?_, fun c2 => ?_⟩
  ·
    exact l_41 ((30002 - 1 : Int).toNat + 1) _ _ (show (30002 - 1 : Int) < (((30002 - 1 : Int).toNat + 1 : Nat) : Int) from by ((first | omega | (simp only [st_s] <;> omega) | assumption | omega | fail))) hT (show σ.1 3 = σ.1 3 from by first | exact W3 | omega) (show σ.1 5 = σ.1 5 from by first | exact W5 | omega) (show σ.1 45 = σ.1 45 from by first | exact W45 | omega) (show σ.1 46 = σ.1 46 from by first | exact W46 | omega) (show σ.1 47 = σ.1 47 from by first | exact W47 | omega) (show σ.1 48 = σ.1 48 from by first | exact W48 | omega) G71 G72 G73 G77 G78 G81 G82 G83 G84 G14 G16 G10 (show 1 ≤ 1 ∧ 1 ≤ (σ.1 47) from by (first | omega | (simp only [st_s] <;> omega) | assumption | omega | fail)) (show y_Fr (σ.1 47) n3 n1 n2 (fun z => z < 1 ∧ ¬ y_FV (σ.2.1 78) (σ.2.1 77) z) (σ.2.1 72) (y_W1 (σ.1 3) (σ.2.1 71) (σ.2.1 75)) (y_W2 (σ.1 3) (σ.2.1 71) (σ.2.1 75)) (σ.2.1 78) (σ.2.1 77) (σ.2.1 83) (σ.2.2 5) (σ.2.2 6) from by (first | exact y_Fr_d p7 (fun x a b c d => ⟨fun z => z.elim, fun z => by have := z.1; omega⟩) p2 | exact y_Fr_d i41_2 (fun x a b c d => y_D1 (fun z => by rw [z] at c d; omega)) p2 | exact y_Fr_d i41_2 (fun x a b c d => y_D1 (fun z => by rw [z]; exact q31_2.mp (by assumption))) p2 | exact y_Fr_d fs (fun x a b c d => y_D2 fv) p2 | exact y_Fr_d i137_2 (fun x a b c d => y_D2 i137_12) p2 | exact y_sk p8 v21 wr i41_2 p1 p2 p3 (by omega) i41_1.1 (by omega) (by omega) (by omega) (by omega) ((qT.2.2.1 u4_41 i41_1.1 (by omega)).2.2 (by omega)) (y_sp qT tyR i41_1.1 (by omega) (by omega)) (by rw [← e_x26, ← e_x28]; assumption) (y_BA qT v21 i41_2 i41_1.1 (by omega) (by omega) (by omega)) | fail)) (show y_B (σ.1 3) n1 n2 1 (σ.2.1 71) (fun t => y_L (y_ls (σ.1 3) (σ.2.1 71) (σ.2.1 73)) t n1 n2) (y_N1 n3 (y_hd σ) (y_nn σ) (y_f σ) (σ.2.1 72) (y_W1 (σ.1 3) (σ.2.1 71) (σ.2.1 75)) n1 n2 (σ.2.1 81)) (y_N2 n3 (y_hd σ) (y_nn σ) (y_f σ) (σ.2.1 72) (y_W1 (σ.1 3) (σ.2.1 71) (σ.2.1 75)) (y_W2 (σ.1 3) (σ.2.1 71) (σ.2.1 75)) n1 n2 (σ.2.1 81) (σ.2.1 82)) (σ.2.1 81) (σ.2.1 75) (σ.2.1 76) from by (first | exact y_B_0 p6 soS inj hlf (Or.inl ⟨by omega, rfl⟩) | exact y_B_0 p6 soS inj hlf (Or.inr ⟨by omega, by rw [show x11 + 1 = 1 from by omega, q7_1, ← e_x6]⟩) | exact y_B_n i41_3 (y_nA qF l5 i41_1.1 (by omega) (by omega)) n21 | exact y_B_n i41_3 (y_nB qT nR l5 i41_1.1 (by omega) (q21_2.mp (by assumption))) n21 | exact y_B_n i41_3 (y_nC qT nR nuR l5 i41_1.1 (by omega) (q31_2.mp (by assumption))) n21 | (rw [g75_τ37, g76_τ37]; exact y_B_n i41_3 (fun t h => by (have w := h.1; omega)) n21) | (rw [g75_τ37, g76_τ37]; exact y_B_n i41_3 (fun t h => absurd ((y_sr1 (x := x41) (k := n2) (by omega) (by omega)).mpr (by rw [e_x41]; exact (y_nD qT qF l5 fs (by omega) (by omega) i41_1.1 (by omega) (Or.inr rfl) h.1).1.mpr h.2.2)) (by assumption)) n21) | exact y_B_n i41_3 (nsk (by assumption)) n21 | (rw [q62_1, e_x61]; exact y_B_y i137_3 i137_1.1 hdi.1 hdi.2.1 hdi.2.2 inj na (fun t h => h.2.1.symm) n21 hm (by rw [← e_x110]; exact hw) (by first | exact Or.inl ⟨by (rw [← e_x61, ← q62_1, ← e_x101]; assumption), by (rw [← e_x61, ← q62_1]; exact e_x103)⟩ | exact Or.inr ⟨by (rw [← e_x61, ← q62_1, ← e_x101]; assumption), e_x105⟩)) | fail)) (show ∀ s : Int, 0 ≤ s → s < (σ.1 46) → ∀ p q : Int, 0 ≤ p → p ≤ 60 → 0 ≤ q → q ≤ 60 → ¬ (p = n1 ∧ q = n2) → σ.2.1 75 ((s * 61 + p) * 61 + q) = σ.2.1 75 ((s * 61 + p) * 61 + q) ∧ σ.2.1 76 ((s * 61 + p) * 61 + q) = σ.2.1 76 ((s * 61 + p) * 61 + q) from by (first | exact i41_4 | (intro s a b p q c d e f g; exact ⟨rfl, rfl⟩) | (rw [g75_τ37, g76_τ37]; exact i41_4) | (intro s a b p q c d e f g; have ne : (s * 61 + p) * 61 + q ≠ (x6 * 61 + n1) * 61 + n2 := (fun z => by (have s6 : s = x6 := (by omega); rw [s6] at z; exact g ⟨by omega, by omega⟩)); rw [q7_1, st_n _ _ ne]; exact ⟨rfl, rfl⟩) | (intro s a b p q c d e f g; rw [q62_1, st_n _ _ (by omega), st_n _ _ (by omega)]; exact i137_4 s a b p q c d e f g) | fail)) (show ∀ s : Int, 0 ≤ s → s < (σ.1 46) → 0 ≤ σ.2.1 75 ((s * 61 + n1) * 61 + n2) ∧ σ.2.1 75 ((s * 61 + n1) * 61 + n2) ≤ 2 from by (first | exact i41_5 | (intro s a b; have w := (p6 s a b).1; omega) | (rw [g75_τ37]; exact i41_5) | (intro s a b; have w := (p6 s a b).1; by_cases z : s = x6; (rw [q7_1, z, st_s]; rw [z, ← q7_1, ← e_x11] at w; omega); (rw [q7_1, st_n _ _ (by omega)]; omega)) | (intro s a b; by_cases z : s = x61; (rw [q62_1, z, st_s]; omega); (rw [q62_1, st_n _ _ (by omega)]; exact i137_5 s a b)) | fail)) (show σ.2.2 3 = σ.2.2 3 ∧ σ.2.2 4 = σ.2.2 4 from by (first | exact i41_6 | exact ⟨rfl, rfl⟩ | exact i137_6 | (rw [hf_τ37.2.2 3 (by decide), hf_τ37.2.2 4 (by decide)]; exact i41_6) | fail))
  ·
    refine ⟨(show 0 ≤ n1 ∧ n1 < 64 from by (first | omega | (simp only [st_s] <;> omega) | assumption | omega | fail)), ?_⟩
    intro x4 r_x4 e_x4
    have b_x4 : (-1) ≤ x4 ∧ x4 ≤ 99 := by rw [e_x4]; exact hT.2 73 _
    refine ⟨fun c5 => ?_, fun c5 => ?_⟩
    ·
      exact l_41 ((30002 - 1 : Int).toNat + 1) _ _ (show (30002 - 1 : Int) < (((30002 - 1 : Int).toNat + 1 : Nat) : Int) from by ((first | omega | (simp only [st_s] <;> omega) | assumption | omega | fail))) hT (show σ.1 3 = σ.1 3 from by first | exact W3 | omega) (show σ.1 5 = σ.1 5 from by first | exact W5 | omega) (show σ.1 45 = σ.1 45 from by first | exact W45 | omega) (show σ.1 46 = σ.1 46 from by first | exact W46 | omega) (show σ.1 47 = σ.1 47 from by first | exact W47 | omega) (show σ.1 48 = σ.1 48 from by first | exact W48 | omega) G71 G72 G73 G77 G78 G81 G82 G83 G84 G14 G16 G10 (show 1 ≤ 1 ∧ 1 ≤ (σ.1 47) from by (first | omega | (simp only [st_s] <;> omega) | assumption | omega | fail)) (show y_Fr (σ.1 47) n3 n1 n2 (fun z => z < 1 ∧ ¬ y_FV (σ.2.1 78) (σ.2.1 77) z) (σ.2.1 72) (y_W1 (σ.1 3) (σ.2.1 71) (σ.2.1 75)) (y_W2 (σ.1 3) (σ.2.1 71) (σ.2.1 75)) (σ.2.1 78) (σ.2.1 77) (σ.2.1 83) (σ.2.2 5) (σ.2.2 6) from by (first | exact y_Fr_d p7 (fun x a b c d => ⟨fun z => z.elim, fun z => by have := z.1; omega⟩) p2 | exact y_Fr_d i41_2 (fun x a b c d => y_D1 (fun z => by rw [z] at c d; omega)) p2 | exact y_Fr_d i41_2 (fun x a b c d => y_D1 (fun z => by rw [z]; exact q31_2.mp (by assumption))) p2 | exact y_Fr_d fs (fun x a b c d => y_D2 fv) p2 | exact y_Fr_d i137_2 (fun x a b c d => y_D2 i137_12) p2 | exact y_sk p8 v21 wr i41_2 p1 p2 p3 (by omega) i41_1.1 (by omega) (by omega) (by omega) (by omega) ((qT.2.2.1 u4_41 i41_1.1 (by omega)).2.2 (by omega)) (y_sp qT tyR i41_1.1 (by omega) (by omega)) (by rw [← e_x26, ← e_x28]; assumption) (y_BA qT v21 i41_2 i41_1.1 (by omega) (by omega) (by omega)) | fail)) (show y_B (σ.1 3) n1 n2 1 (σ.2.1 71) (fun t => y_L (y_ls (σ.1 3) (σ.2.1 71) (σ.2.1 73)) t n1 n2) (y_N1 n3 (y_hd σ) (y_nn σ) (y_f σ) (σ.2.1 72) (y_W1 (σ.1 3) (σ.2.1 71) (σ.2.1 75)) n1 n2 (σ.2.1 81)) (y_N2 n3 (y_hd σ) (y_nn σ) (y_f σ) (σ.2.1 72) (y_W1 (σ.1 3) (σ.2.1 71) (σ.2.1 75)) (y_W2 (σ.1 3) (σ.2.1 71) (σ.2.1 75)) n1 n2 (σ.2.1 81) (σ.2.1 82)) (σ.2.1 81) (σ.2.1 75) (σ.2.1 76) from by (first | exact y_B_0 p6 soS inj hlf (Or.inl ⟨by omega, rfl⟩) | exact y_B_0 p6 soS inj hlf (Or.inr ⟨by omega, by rw [show x11 + 1 = 1 from by omega, q7_1, ← e_x6]⟩) | exact y_B_n i41_3 (y_nA qF l5 i41_1.1 (by omega) (by omega)) n21 | exact y_B_n i41_3 (y_nB qT nR l5 i41_1.1 (by omega) (q21_2.mp (by assumption))) n21 | exact y_B_n i41_3 (y_nC qT nR nuR l5 i41_1.1 (by omega) (q31_2.mp (by assumption))) n21 | (rw [g75_τ37, g76_τ37]; exact y_B_n i41_3 (fun t h => by (have w := h.1; omega)) n21) | (rw [g75_τ37, g76_τ37]; exact y_B_n i41_3 (fun t h => absurd ((y_sr1 (x := x41) (k := n2) (by omega) (by omega)).mpr (by rw [e_x41]; exact (y_nD qT qF l5 fs (by omega) (by omega) i41_1.1 (by omega) (Or.inr rfl) h.1).1.mpr h.2.2)) (by assumption)) n21) | exact y_B_n i41_3 (nsk (by assumption)) n21 | (rw [q62_1, e_x61]; exact y_B_y i137_3 i137_1.1 hdi.1 hdi.2.1 hdi.2.2 inj na (fun t h => h.2.1.symm) n21 hm (by rw [← e_x110]; exact hw) (by first | exact Or.inl ⟨by (rw [← e_x61, ← q62_1, ← e_x101]; assumption), by (rw [← e_x61, ← q62_1]; exact e_x103)⟩ | exact Or.inr ⟨by (rw [← e_x61, ← q62_1, ← e_x101]; assumption), e_x105⟩)) | fail)) (show ∀ s : Int, 0 ≤ s → s < (σ.1 46) → ∀ p q : Int, 0 ≤ p → p ≤ 60 → 0 ≤ q → q ≤ 60 → ¬ (p = n1 ∧ q = n2) → σ.2.1 75 ((s * 61 + p) * 61 + q) = σ.2.1 75 ((s * 61 + p) * 61 + q) ∧ σ.2.1 76 ((s * 61 + p) * 61 + q) = σ.2.1 76 ((s * 61 + p) * 61 + q) from by (first | exact i41_4 | (intro s a b p q c d e f g; exact ⟨rfl, rfl⟩) | (rw [g75_τ37, g76_τ37]; exact i41_4) | (intro s a b p q c d e f g; have ne : (s * 61 + p) * 61 + q ≠ (x6 * 61 + n1) * 61 + n2 := (fun z => by (have s6 : s = x6 := (by omega); rw [s6] at z; exact g ⟨by omega, by omega⟩)); rw [q7_1, st_n _ _ ne]; exact ⟨rfl, rfl⟩) | (intro s a b p q c d e f g; rw [q62_1, st_n _ _ (by omega), st_n _ _ (by omega)]; exact i137_4 s a b p q c d e f g) | fail)) (show ∀ s : Int, 0 ≤ s → s < (σ.1 46) → 0 ≤ σ.2.1 75 ((s * 61 + n1) * 61 + n2) ∧ σ.2.1 75 ((s * 61 + n1) * 61 + n2) ≤ 2 from by (first | exact i41_5 | (intro s a b; have w := (p6 s a b).1; omega) | (rw [g75_τ37]; exact i41_5) | (intro s a b; have w := (p6 s a b).1; by_cases z : s = x6; (rw [q7_1, z, st_s]; rw [z, ← q7_1, ← e_x11] at w; omega); (rw [q7_1, st_n _ _ (by omega)]; omega)) | (intro s a b; by_cases z : s = x61; (rw [q62_1, z, st_s]; omega); (rw [q62_1, st_n _ _ (by omega)]; exact i137_5 s a b)) | fail)) (show σ.2.2 3 = σ.2.2 3 ∧ σ.2.2 4 = σ.2.2 4 from by (first | exact i41_6 | exact ⟨rfl, rfl⟩ | exact i137_6 | (rw [hf_τ37.2.2 3 (by decide), hf_τ37.2.2 4 (by decide)]; exact i41_6) | fail))
    ·
      intro x6 r_x6 e_x6
      have b_x6 : (-1) ≤ x6 ∧ x6 ≤ 99 := by rw [e_x6]; exact hT.2 73 _
      have b6 : 0 ≤ x6 ∧ x6 < σ.1 46 := by (rcases hlf with z | ⟨z, t, ht, e⟩; (exfalso; omega); (have w := soS t ht.1 ht.2 (by omega); omega))
      refine ⟨_, K_X13_wayAt hT (show 0 ≤ x6 ∧ x6 ≤ 99 from by (first | omega | (simp only [st_s] <;> omega) | assumption | omega | fail)) (show 0 ≤ n1 ∧ n1 ≤ 60 from by (first | omega | (simp only [st_s] <;> omega) | assumption | omega | fail)) (show 0 ≤ n2 ∧ n2 ≤ 60 from by (first | omega | (simp only [st_s] <;> omega) | assumption | omega | fail)), ?_⟩
      intro x8 r_x8 hq
      obtain ⟨q7_1, q7_2⟩ := hq
      replace q7_1 : x8 = (x6 * 61 + n1) * 61 + n2 := q7_1
      replace q7_2 : 0 ≤ x8 ∧ x8 < 372100 := q7_2
      refine ⟨(show 0 ≤ x8 ∧ x8 < 372100 from by (first | omega | (simp only [st_s] <;> omega) | assumption | omega | fail)), ?_⟩
      intro x11 r_x11 e_x11
      have b_x11 : 0 ≤ x11 ∧ x11 ≤ 3 := by rw [e_x11]; exact hT.2 75 _
      have z11 : x11 = 0 := by (rw [e_x11, q7_1]; exact (p6 x6 b6.1 b6.2).1)
      refine ⟨(⟨by (first | omega | (simp only [st_s] <;> omega) | assumption | omega | fail), by (first | omega | (simp only [st_s] <;> omega) | assumption | omega | fail)⟩ : rg (x11 + 1)), ?_⟩
      replace hT := mT_a (k := 75) (j := x8) hT (show (0 : Int) ≤ (x11 + 1) ∧ (x11 + 1) ≤ 3 from by (first | omega | (simp only [st_s] <;> omega) | assumption | omega | fail))
      exact l_41 ((30002 - 1 : Int).toNat + 1) _ _ (show (30002 - 1 : Int) < (((30002 - 1 : Int).toNat + 1 : Nat) : Int) from by ((first | omega | (simp only [st_s] <;> omega) | assumption | omega | fail))) hT (show σ.1 3 = σ.1 3 from by first | exact W3 | omega) (show σ.1 5 = σ.1 5 from by first | exact W5 | omega) (show σ.1 45 = σ.1 45 from by first | exact W45 | omega) (show σ.1 46 = σ.1 46 from by first | exact W46 | omega) (show σ.1 47 = σ.1 47 from by first | exact W47 | omega) (show σ.1 48 = σ.1 48 from by first | exact W48 | omega) G71 G72 G73 G77 G78 G81 G82 G83 G84 G14 G16 G10 (show 1 ≤ 1 ∧ 1 ≤ (σ.1 47) from by (first | omega | (simp only [st_s] <;> omega) | assumption | omega | fail)) (show y_Fr (σ.1 47) n3 n1 n2 (fun z => z < 1 ∧ ¬ y_FV (σ.2.1 78) (σ.2.1 77) z) (σ.2.1 72) (y_W1 (σ.1 3) (σ.2.1 71) (σ.2.1 75)) (y_W2 (σ.1 3) (σ.2.1 71) (σ.2.1 75)) (σ.2.1 78) (σ.2.1 77) (σ.2.1 83) (σ.2.2 5) (σ.2.2 6) from by (first | exact y_Fr_d p7 (fun x a b c d => ⟨fun z => z.elim, fun z => by have := z.1; omega⟩) p2 | exact y_Fr_d i41_2 (fun x a b c d => y_D1 (fun z => by rw [z] at c d; omega)) p2 | exact y_Fr_d i41_2 (fun x a b c d => y_D1 (fun z => by rw [z]; exact q31_2.mp (by assumption))) p2 | exact y_Fr_d fs (fun x a b c d => y_D2 fv) p2 | exact y_Fr_d i137_2 (fun x a b c d => y_D2 i137_12) p2 | exact y_sk p8 v21 wr i41_2 p1 p2 p3 (by omega) i41_1.1 (by omega) (by omega) (by omega) (by omega) ((qT.2.2.1 u4_41 i41_1.1 (by omega)).2.2 (by omega)) (y_sp qT tyR i41_1.1 (by omega) (by omega)) (by rw [← e_x26, ← e_x28]; assumption) (y_BA qT v21 i41_2 i41_1.1 (by omega) (by omega) (by omega)) | fail)) (show y_B (σ.1 3) n1 n2 1 (σ.2.1 71) (fun t => y_L (y_ls (σ.1 3) (σ.2.1 71) (σ.2.1 73)) t n1 n2) (y_N1 n3 (y_hd σ) (y_nn σ) (y_f σ) (σ.2.1 72) (y_W1 (σ.1 3) (σ.2.1 71) (σ.2.1 75)) n1 n2 (σ.2.1 81)) (y_N2 n3 (y_hd σ) (y_nn σ) (y_f σ) (σ.2.1 72) (y_W1 (σ.1 3) (σ.2.1 71) (σ.2.1 75)) (y_W2 (σ.1 3) (σ.2.1 71) (σ.2.1 75)) n1 n2 (σ.2.1 81) (σ.2.1 82)) (σ.2.1 81) ((st (σ.2.1 75) x8 (x11 + 1))) (σ.2.1 76) from by (first | exact y_B_0 p6 soS inj hlf (Or.inl ⟨by omega, rfl⟩) | exact y_B_0 p6 soS inj hlf (Or.inr ⟨by omega, by rw [show x11 + 1 = 1 from by omega, q7_1, ← e_x6]⟩) | exact y_B_n i41_3 (y_nA qF l5 i41_1.1 (by omega) (by omega)) n21 | exact y_B_n i41_3 (y_nB qT nR l5 i41_1.1 (by omega) (q21_2.mp (by assumption))) n21 | exact y_B_n i41_3 (y_nC qT nR nuR l5 i41_1.1 (by omega) (q31_2.mp (by assumption))) n21 | (rw [g75_τ37, g76_τ37]; exact y_B_n i41_3 (fun t h => by (have w := h.1; omega)) n21) | (rw [g75_τ37, g76_τ37]; exact y_B_n i41_3 (fun t h => absurd ((y_sr1 (x := x41) (k := n2) (by omega) (by omega)).mpr (by rw [e_x41]; exact (y_nD qT qF l5 fs (by omega) (by omega) i41_1.1 (by omega) (Or.inr rfl) h.1).1.mpr h.2.2)) (by assumption)) n21) | exact y_B_n i41_3 (nsk (by assumption)) n21 | (rw [q62_1, e_x61]; exact y_B_y i137_3 i137_1.1 hdi.1 hdi.2.1 hdi.2.2 inj na (fun t h => h.2.1.symm) n21 hm (by rw [← e_x110]; exact hw) (by first | exact Or.inl ⟨by (rw [← e_x61, ← q62_1, ← e_x101]; assumption), by (rw [← e_x61, ← q62_1]; exact e_x103)⟩ | exact Or.inr ⟨by (rw [← e_x61, ← q62_1, ← e_x101]; assumption), e_x105⟩)) | fail)) (show ∀ s : Int, 0 ≤ s → s < (σ.1 46) → ∀ p q : Int, 0 ≤ p → p ≤ 60 → 0 ≤ q → q ≤ 60 → ¬ (p = n1 ∧ q = n2) → (st (σ.2.1 75) x8 (x11 + 1)) ((s * 61 + p) * 61 + q) = σ.2.1 75 ((s * 61 + p) * 61 + q) ∧ σ.2.1 76 ((s * 61 + p) * 61 + q) = σ.2.1 76 ((s * 61 + p) * 61 + q) from by (first | exact i41_4 | (intro s a b p q c d e f g; exact ⟨rfl, rfl⟩) | (rw [g75_τ37, g76_τ37]; exact i41_4) | (intro s a b p q c d e f g; have ne : (s * 61 + p) * 61 + q ≠ (x6 * 61 + n1) * 61 + n2 := (fun z => by (have s6 : s = x6 := (by omega); rw [s6] at z; exact g ⟨by omega, by omega⟩)); rw [q7_1, st_n _ _ ne]; exact ⟨rfl, rfl⟩) | (intro s a b p q c d e f g; rw [q62_1, st_n _ _ (by omega), st_n _ _ (by omega)]; exact i137_4 s a b p q c d e f g) | fail)) (show ∀ s : Int, 0 ≤ s → s < (σ.1 46) → 0 ≤ (st (σ.2.1 75) x8 (x11 + 1)) ((s * 61 + n1) * 61 + n2) ∧ (st (σ.2.1 75) x8 (x11 + 1)) ((s * 61 + n1) * 61 + n2) ≤ 2 from by (first | exact i41_5 | (intro s a b; have w := (p6 s a b).1; omega) | (rw [g75_τ37]; exact i41_5) | (intro s a b; have w := (p6 s a b).1; by_cases z : s = x6; (rw [q7_1, z, st_s]; rw [z, ← q7_1, ← e_x11] at w; omega); (rw [q7_1, st_n _ _ (by omega)]; omega)) | (intro s a b; by_cases z : s = x61; (rw [q62_1, z, st_s]; omega); (rw [q62_1, st_n _ _ (by omega)]; exact i137_5 s a b)) | fail)) (show σ.2.2 3 = σ.2.2 3 ∧ σ.2.2 4 = σ.2.2 4 from by (first | exact i41_6 | exact ⟨rfl, rfl⟩ | exact i137_6 | (rw [hf_τ37.2.2 3 (by decide), hf_τ37.2.2 4 (by decide)]; exact i41_6) | fail))
