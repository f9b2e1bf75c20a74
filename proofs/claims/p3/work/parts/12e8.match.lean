-- pure: a rule's symbols over a stretch
def y_stp (row : Int → Int) (W : Int → Int → Int → Prop) (g p q : Int) : Prop := (0 ≤ g ∧ q = p + 1 ∧ row p = g) ∨ (g < 0 ∧ p < q ∧ W (-2 - g) p q)
theorem y_p1_t {row : Int → Int} {W : Int → Int → Int → Prop} {f : Int → Int} {i : Int} {k : Nat} {q : Int} : y_p1 row W f i (k + 1) q ↔ ∃ p : Int, i ≤ p ∧ y_p1 row W f i k p ∧ y_stp row W (f ((k : Int) + 1)) p q := by
  constructor
  · rintro (⟨a, b, c, d⟩ | ⟨a, p, hp, h1, h2⟩)
    · exact ⟨q - 1, by omega, d, Or.inl ⟨a, by omega, c⟩⟩
    · exact ⟨p, hp.1, h1, Or.inr ⟨a, hp.2, h2⟩⟩
  · rintro ⟨p, ip, h1, ⟨a, b, c⟩ | ⟨a, b, c⟩⟩
    · exact Or.inl ⟨a, by omega, by rw [b, show p + 1 - 1 = p by omega]; exact c, by rw [b, show p + 1 - 1 = p by omega]; exact h1⟩
    · exact Or.inr ⟨a, p, ⟨ip, b⟩, h1, c⟩
/-- fronts of a rule's symbols, row by row -/
def y_f0 (row : Int → Int) (W : Int → Int → Int → Prop) (f : Int → Int) (i j n : Int) (fr : Int → Int) (k : Int) : Prop := ∀ q : Int, i ≤ q → q ≤ j → (0 ≤ fr (61 * k + q) ∧ fr (61 * k + q) ≤ 2) ∧ (q ≤ j - (n - k) → (¬ fr (61 * k + q) = 0 ↔ y_p1 row W f i k.toNat q))
/-- the row at hand, from places before u -/
def y_f1 (row : Int → Int) (W : Int → Int → Int → Prop) (f : Int → Int) (i j n : Int) (fr : Int → Int) (k u : Int) : Prop := ∀ q : Int, i ≤ q → q ≤ j → (0 ≤ fr (61 * k + q) ∧ fr (61 * k + q) ≤ 2 ∧ (u < q → 0 ≤ f k → fr (61 * k + q) = 0)) ∧ (q ≤ j - (n - k) → (¬ fr (61 * k + q) = 0 ↔ ∃ p : Int, (i ≤ p ∧ p < u) ∧ y_p1 row W f i (k - 1).toNat p ∧ y_stp row W (f k) p q))
/-- nothing so far -/
def y_f2 (row : Int → Int) (W : Int → Int → Int → Prop) (f : Int → Int) (i j n k u any : Int) : Prop := any = 0 → ∀ p q : Int, i ≤ p → p < u → q ≤ j - (n - k) → y_p1 row W f i (k - 1).toNat p → ¬ y_stp row W (f k) p q
section
variable {row : Int → Int} {W : Int → Int → Int → Prop} {f : Int → Int} {i j n k u : Int} {fr : Int → Int}
theorem y_f1_e (k1 : 1 ≤ k) (h : y_f1 row W f i j n fr k j) : y_f0 row W f i j n fr k := fun q a b => by
  obtain ⟨h1, h2⟩ := h q a b
  refine ⟨⟨h1.1, h1.2.1⟩, fun l => (h2 l).trans ?_⟩
  rw [show k.toNat = (k - 1).toNat + 1 by omega, y_p1_t, show (((k - 1).toNat : Int) + 1) = k by omega]
  exact ⟨fun ⟨p, hp, c, d⟩ => ⟨p, hp.1, c, d⟩, fun ⟨p, hp, c, d⟩ => ⟨p, ⟨hp, by
    rcases d with ⟨_, d, _⟩ | ⟨_, d, _⟩ <;> omega⟩, c, d⟩⟩
theorem y_f1_n (h : y_f1 row W f i j n fr k u) (ub : u < j) (z : u ≤ j - (n - (k - 1)) → ¬ y_p1 row W f i (k - 1).toNat u) : y_f1 row W f i j n fr k (u + 1) := fun q a b => by
  obtain ⟨h1, h2⟩ := h q a b
  refine ⟨⟨h1.1, h1.2.1, fun l => h1.2.2 (by omega)⟩, fun l => (h2 l).trans ⟨fun ⟨p, hp, c, d⟩ => ⟨p, ⟨hp.1, by omega⟩, c, d⟩, fun ⟨p, hp, c, d⟩ => ?_⟩⟩
  rcases (by omega : p < u ∨ p = u) with y | y
  · exact ⟨p, ⟨hp.1, y⟩, c, d⟩
  · rw [y] at c d
    exact absurd c (z (by rcases d with ⟨_, d, _⟩ | ⟨_, d, _⟩ <;> omega))
theorem y_f2_n {any : Int} (h : y_f2 row W f i j n k u any) (z : u ≤ j - (n - (k - 1)) → ¬ y_p1 row W f i (k - 1).toNat u) : y_f2 row W f i j n k (u + 1) any := fun a p q b c d e g => by
  rcases (by omega : p < u ∨ p = u) with y | y
  · exact h a p q b y d e g
  · rw [y] at e g
    exact z (by rcases g with ⟨_, g, _⟩ | ⟨_, g, _⟩ <;> omega) e
/-- a symbol that stands there, or does not -/
theorem y_f1_c (h : y_f1 row W f i j n fr k u) (ui : i ≤ u) (ub : u < j) (fk : 0 ≤ f k) {v had : Int} (hb : 0 ≤ had ∧ had ≤ 2) (hn : ¬ had = 0) (z : u ≤ j - (n - (k - 1)) → y_p1 row W f i (k - 1).toNat u) (hv : (row u = f k ∧ v = fr (61 * k + (u + 1)) + had) ∨ (¬ row u = f k ∧ v = fr (61 * k + (u + 1)) + 0)) : y_f1 row W f i j n (st fr (61 * k + (u + 1)) v) k (u + 1) := fun q a b => by
  obtain ⟨h1, h2⟩ := h q a b
  have w := (h (u + 1) (by omega) (by omega)).1.2.2 (by omega) fk
  by_cases e : q = u + 1
  · subst e
    rw [st_s]
    refine ⟨⟨by omega, by omega, fun l => by omega⟩, fun l => ⟨fun y => ?_, fun ⟨p, hp, c, d⟩ => ?_⟩⟩
    · have r : row u = f k := by rcases hv with ⟨r, _⟩ | ⟨_, r⟩ <;> omega
      exact ⟨u, ⟨ui, by omega⟩, z (by omega), Or.inl ⟨fk, rfl, r⟩⟩
    · have pu : p = u := by rcases d with ⟨_, d, _⟩ | ⟨d, _⟩ <;> omega
      rw [pu] at d
      have r : row u = f k := by
        rcases d with ⟨_, _, d⟩ | ⟨d, _⟩
        · exact d
        · omega
      rcases hv with ⟨_, r2⟩ | ⟨r2, _⟩
      · omega
      · exact absurd r r2
  · rw [st_n _ _ (by omega)]
    refine ⟨⟨h1.1, h1.2.1, fun l => h1.2.2 (by omega)⟩, fun l => (h2 l).trans ⟨fun ⟨p, hp, c, d⟩ => ⟨p, ⟨hp.1, by omega⟩, c, d⟩, fun ⟨p, hp, c, d⟩ => ?_⟩⟩
    rcases (by omega : p < u ∨ p = u) with y | y
    · exact ⟨p, ⟨hp.1, y⟩, c, d⟩
    · rw [y] at d
      rcases d with ⟨_, d, _⟩ | ⟨d, _⟩ <;> omega
theorem y_f2_c {any any2 : Int} (h : y_f2 row W f i j n k u any) (fk : 0 ≤ f k) (a0 : 0 ≤ any) (hv : (row u = f k ∧ any2 = any + 1) ∨ (¬ row u = f k ∧ any2 = any + 0)) : y_f2 row W f i j n k (u + 1) any2 := fun a p q b c d e g => by
  rcases (by omega : p < u ∨ p = u) with y | y
  · exact h (by omega) p q b y d e g
  · rw [y] at g
    rcases g with ⟨_, _, g⟩ | ⟨g, _⟩
    · rcases hv with ⟨_, hv⟩ | ⟨hv, _⟩
      · omega
      · exact hv g
    · omega
/-- a variable: places up to v are told -/
def y_f3 (row : Int → Int) (W : Int → Int → Int → Prop) (f : Int → Int) (i j n : Int) (fr : Int → Int) (k u v : Int) : Prop := ∀ q : Int, i ≤ q → q ≤ j → (0 ≤ fr (61 * k + q) ∧ fr (61 * k + q) ≤ 2) ∧ (q ≤ j - (n - k) → (¬ fr (61 * k + q) = 0 ↔ (∃ p : Int, (i ≤ p ∧ p < u) ∧ y_p1 row W f i (k - 1).toNat p ∧ y_stp row W (f k) p q) ∨ (q < v ∧ y_p1 row W f i (k - 1).toNat u ∧ y_stp row W (f k) u q)))
def y_f4 (row : Int → Int) (W : Int → Int → Int → Prop) (f : Int → Int) (i j n k u v any : Int) : Prop := any = 0 → ∀ p q : Int, i ≤ p → (p < u ∨ (p = u ∧ q < v)) → q ≤ j - (n - k) → y_p1 row W f i (k - 1).toNat p → ¬ y_stp row W (f k) p q
theorem y_f3_0 (h : y_f1 row W f i j n fr k u) (fk : f k < 0) : y_f3 row W f i j n fr k u (u + 1) := fun q a b => by
  obtain ⟨h1, h2⟩ := h q a b
  refine ⟨⟨h1.1, h1.2.1⟩, fun l => (h2 l).trans ⟨Or.inl, fun y => y.elim id (fun ⟨c, _, d⟩ => ?_)⟩⟩
  rcases d with ⟨d, _⟩ | ⟨_, d, _⟩ <;> omega
theorem y_f4_0 {any : Int} (h : y_f2 row W f i j n k u any) : y_f4 row W f i j n k u (u + 1) any := fun a p q b c d e g => by
  rcases c with c | ⟨c, c2⟩
  · exact h a p q b c d e g
  · rw [c] at g
    rcases g with ⟨_, g, _⟩ | ⟨_, g, _⟩
    · rename_i x
      exact absurd c2 (by omega)
    · omega
theorem y_f3_e {v : Int} (h : y_f3 row W f i j n fr k u v) (fk : f k < 0) (ui : i ≤ u) (vl : (∀ q : Int, ¬ W (-2 - f k) u q) ∨ j - (n - k) < v) : y_f1 row W f i j n fr k (u + 1) := fun q a b => by
  obtain ⟨h1, h2⟩ := h q a b
  refine ⟨⟨h1.1, h1.2, fun _ l => by omega⟩, fun l => (h2 l).trans ⟨fun y => y.elim (fun ⟨p, hp, c, d⟩ => ⟨p, ⟨hp.1, by omega⟩, c, d⟩) (fun ⟨_, c, d⟩ => ⟨u, ⟨ui, by omega⟩, c, d⟩), fun ⟨p, hp, c, d⟩ => ?_⟩⟩
  rcases (by omega : p < u ∨ p = u) with y | y
  · exact Or.inl ⟨p, ⟨hp.1, y⟩, c, d⟩
  · rw [y] at c d
    rcases vl with vl | vl
    · rcases d with ⟨d, _⟩ | ⟨_, _, d⟩
      · omega
      · exact absurd d (vl q)
    · exact Or.inr ⟨by omega, c, d⟩
theorem y_f4_e {v any : Int} (h : y_f4 row W f i j n k u v any) (fk : f k < 0) (vl : (∀ q : Int, ¬ W (-2 - f k) u q) ∨ j - (n - k) < v) : y_f2 row W f i j n k (u + 1) any := fun a p q b c d e g => by
  rcases (by omega : p < u ∨ p = u) with y | y
  · exact h a p q b (Or.inl y) d e g
  · rcases vl with vl | vl
    · rw [y] at g
      rcases g with ⟨g, _⟩ | ⟨_, _, g⟩
      · omega
      · exact vl q g
    · exact h a p q b (Or.inr ⟨y, by omega⟩) d e g
theorem y_f3_s {v had w x : Int} (h : y_f3 row W f i j n fr k u v) (fk : f k < 0) (uv : u < v) (iv : i ≤ v) (vj : v ≤ j) (hn : 1 ≤ had ∧ had ≤ 2) (hw : 0 ≤ w ∧ w ≤ 2) (z : v ≤ j - (n - k) → y_p1 row W f i (k - 1).toNat u) (ww : 1 ≤ w ↔ W (-2 - f k) u v) (hx : (fr (61 * k + v) + had * w ≤ 2 ∧ x = fr (61 * k + v) + had * w) ∨ (2 < fr (61 * k + v) + had * w ∧ x = 2)) : y_f3 row W f i j n (st fr (61 * k + v) x) k u (v + 1) := fun q a b => by
  obtain ⟨h1, h2⟩ := h q a b
  have hwn : 0 ≤ had * w := Int.mul_nonneg (by omega) (by omega)
  have hw1 : 1 ≤ w → 1 ≤ had * w := fun y => by
    have := Int.mul_le_mul hn.1 y (by omega) (by omega)
    omega
  have hw0 : ¬ 1 ≤ w → had * w = 0 := fun y => by rw [show w = 0 by omega, Int.mul_zero]
  by_cases e : q = v
  · subst e
    rw [st_s]
    have xb : 0 ≤ x ∧ x ≤ 2 := by clear h2 h z ww hw1 hw0; omega
    have x0 : had * w = 0 → x = fr (61 * k + q) := by clear h2 h z ww hw1 hw0; intro y; omega
    have x1 : 1 ≤ had * w ∨ ¬ fr (61 * k + q) = 0 → ¬ x = 0 := by clear h2 h z ww hw1 hw0; intro y; omega
    refine ⟨xb, fun l => ⟨fun y => ?_, fun y => ?_⟩⟩
    · by_cases o : 1 ≤ w
      · exact Or.inr ⟨by omega, z l, Or.inr ⟨fk, uv, ww.mp o⟩⟩
      · have e0 := x0 (hw0 o)
        rcases (h2 l).mp (by rw [← e0]; exact y) with c | c
        · exact Or.inl c
        · exact absurd c.1 (by omega)
    · rcases y with y | ⟨_, c, d⟩
      · exact x1 (Or.inr ((h2 l).mpr (Or.inl y)))
      · rcases d with ⟨d, _⟩ | ⟨_, _, d⟩
        · omega
        · exact x1 (Or.inl (hw1 (ww.mpr d)))
  · rw [st_n _ _ (by omega)]
    exact ⟨h1, fun l => (h2 l).trans (or_congr Iff.rfl ⟨fun y => ⟨by omega, y.2⟩, fun y => ⟨by omega, y.2⟩⟩)⟩
theorem y_f4_s {v w any : Int} (h : y_f4 row W f i j n k u v any) (fk : f k < 0) (a0 : 0 ≤ any) (w0 : 0 ≤ w) (ww : 1 ≤ w ↔ W (-2 - f k) u v) : y_f4 row W f i j n k u (v + 1) (any + w) := fun a p q b c d e g => by
  rcases (by omega : (p < u ∨ (p = u ∧ q < v)) ∨ (p = u ∧ q = v)) with y | ⟨y, y2⟩
  · exact h (by omega) p q b y d e g
  · rw [y, y2] at g
    rcases g with ⟨g, _⟩ | ⟨_, _, g⟩
    · omega
    · have := ww.mpr g; omega
end
theorem y_p1_a {row : Int → Int} {W : Int → Int → Int → Prop} {f : Int → Int} {i : Int} : ∀ (k : Nat) (q : Int), y_p1 row W f i (k + 1) q → 0 ≤ f 1 → row i = f 1
  | 0, q, h, a => by
    rcases h with ⟨_, _, c, d⟩ | ⟨c, _⟩
    · have d : q - 1 = i := d
      rw [d] at c; exact c
    · have c : f 1 < 0 := c
      omega
  | k + 1, q, h, a => by
    rcases h with ⟨_, _, _, d⟩ | ⟨_, p, _, d, _⟩
    · exact y_p1_a k _ d a
    · exact y_p1_a k _ d a
theorem y_p1_c {row : Int → Int} {W : Int → Int → Int → Prop} {f : Int → Int} {i : Int} (k : Nat) : ∀ (d : Nat) (q : Int), y_p1 row W f i (k + 1 + d) q → ∃ p r : Int, i ≤ p ∧ r ≤ q - (d : Int) ∧ y_p1 row W f i k p ∧ y_stp row W (f ((k : Int) + 1)) p r
  | 0, q, h => by
    obtain ⟨p, ip, h1, h2⟩ := y_p1_t.mp h
    exact ⟨p, q, ip, by omega, h1, h2⟩
  | d + 1, q, h => by
    obtain ⟨p, ip, h1, h2⟩ := y_p1_t.mp (show y_p1 row W f i (k + 1 + d + 1) q from h)
    obtain ⟨p', r, a1, a2, a3, a4⟩ := y_p1_c k d p h1
    exact ⟨p', r, a1, by rcases h2 with ⟨_, h2, _⟩ | ⟨_, h2, _⟩ <;> omega, a3, a4⟩
/-- a row that leads nowhere -/
theorem y_f2_z {row : Int → Int} {W : Int → Int → Int → Prop} {f : Int → Int} {i j n k any : Int} (h : y_f2 row W f i j n k j any) (a : any = 0) (k1 : 1 ≤ k) (kn : k ≤ n) : ¬ y_p1 row W f i n.toNat j := fun p => by
  have e : n.toNat = (k - 1).toNat + 1 + (n - k).toNat := by omega
  rw [e] at p
  obtain ⟨b, r, b1, b2, b3, b4⟩ := y_p1_c _ _ _ p
  rw [show (((k - 1).toNat : Int) + 1) = k by omega] at b4
  exact h a b r b1 (by rcases b4 with ⟨_, b4, _⟩ | ⟨_, b4, _⟩ <;> omega) (by omega) b3 b4
theorem y_f0_0 {row : Int → Int} {W : Int → Int → Int → Prop} {f : Int → Int} {i j n : Int} {fr : Int → Int} (h : ∀ q : Int, i ≤ q → q ≤ j → (q = i ∧ fr q = 1) ∨ (¬ q = i ∧ fr q = 0)) : y_f0 row W f i j n fr 0 := fun q a b => by
  rw [show 61 * 0 + q = q by omega]
  have w := h q a b
  refine ⟨by omega, fun _ => ⟨fun y => ?_, fun y => ?_⟩⟩
  · show q = i
    omega
  · have y : q = i := y
    omega
theorem y_f1_0 {row : Int → Int} {W : Int → Int → Int → Prop} {f : Int → Int} {i j n k : Int} {fr : Int → Int} (h : ∀ q : Int, i ≤ q → q ≤ j → fr (61 * k + q) = 0) : y_f1 row W f i j n fr k i := fun q a b => by
  rw [h q a b]
  exact ⟨⟨by omega, by omega, fun _ _ => rfl⟩, fun _ => ⟨fun y => absurd rfl y, fun ⟨p, hp, _⟩ => by omega⟩⟩
theorem y_f0_x {row : Int → Int} {W : Int → Int → Int → Prop} {f : Int → Int} {i j n k e x : Int} {fr : Int → Int} (h : y_f0 row W f i j n fr k) (i0 : 0 ≤ i) (j60 : j ≤ 60) (ne : 61 * (k + 1) ≤ e) : y_f0 row W f i j n (st fr e x) k := fun q a b => by
  rw [st_n _ _ (by omega)]; exact h q a b
theorem y_p1_a1 {row : Int → Int} {W : Int → Int → Int → Prop} {f : Int → Int} {i n q : Int} (h : y_p1 row W f i n.toNat q) (n1 : 1 ≤ n) (a : 0 ≤ f 1) : row i = f 1 := by
  rw [show n.toNat = (n - 1).toNat + 1 by omega] at h
  exact y_p1_a _ _ h a
theorem y_p1_z {row : Int → Int} {W : Int → Int → Int → Prop} {f : Int → Int} {i n q : Int} (h : y_p1 row W f i n.toNat q) (n1 : 1 ≤ n) (a : 0 ≤ f n) : row (q - 1) = f n := by
  rw [show n.toNat = (n - 1).toNat + 1 by omega] at h
  rcases h with ⟨_, _, c, _⟩ | ⟨c, _⟩
  · rw [show (((n - 1).toNat : Int) + 1) = n by omega] at c; exact c
  · rw [show (((n - 1).toNat : Int) + 1) = n by omega] at c; omega
set_option maxHeartbeats 16000000 in
theorem K_X13_match {n1 : Int} {n2 : Int} {n3 : Int} {σ : S0} (hT : m_T σ) (p1 : 0 ≤ n1) (p2 : n1 < (σ.1 5)) (p3 : y_In σ n1) (p4 : ∀ k : Int, 1 ≤ k → k ≤ y_nn σ n1 → y_f σ n1 k < 0 → 0 ≤ -2 - y_f σ n1 k ∧ -2 - y_f σ n1 k < (σ.1 3)) (p5 : 0 ≤ n2) (p6 : n2 < n3) (p7 : n3 ≤ 59) (p8 : ∀ t p q : Int, 0 ≤ t → t < (σ.1 3) → 0 ≤ σ.2.1 71 t → n2 ≤ p → p < q → q ≤ n3 → 0 ≤ σ.2.1 75 ((σ.2.1 71 t * 61 + p) * 61 + q) ∧ σ.2.1 75 ((σ.2.1 71 t * 61 + p) * 61 + q) ≤ 2) : W_X13_match n1 n2 n3 σ (fun (x : Int) (τ : S0) => (m_T τ) ∧ (y_p1 (σ.2.1 72) (y_W1 (σ.1 3) (σ.2.1 71) (σ.2.1 75)) (y_f σ n1) n2 (y_nn σ n1).toNat n3 → ∀ k : Int, 0 ≤ k → k ≤ y_nn σ n1 → y_f0 (σ.2.1 72) (y_W1 (σ.1 3) (σ.2.1 71) (σ.2.1 75)) (y_f σ n1) n2 n3 (y_nn σ n1) (τ.2.1 85) k)) := by
  have A8 : ∀ j, 0 ≤ σ.2.1 8 j ∧ σ.2.1 8 j ≤ 1 := fun j => hT.2 8 j
  have A10 : ∀ j, (-1) ≤ σ.2.1 10 j ∧ σ.2.1 10 j ≤ 999 := fun j => hT.2 10 j
  have A14 : ∀ j, 0 ≤ σ.2.1 14 j ∧ σ.2.1 14 j ≤ 30000 := fun j => hT.2 14 j
  have A15 : ∀ j, 0 ≤ σ.2.1 15 j ∧ σ.2.1 15 j ≤ 300 := fun j => hT.2 15 j
  have A16 : ∀ j, 0 ≤ σ.2.1 16 j ∧ σ.2.1 16 j ≤ 999 := fun j => hT.2 16 j
  have A71 : ∀ j, (-1) ≤ σ.2.1 71 j ∧ σ.2.1 71 j ≤ 99 := fun j => hT.2 71 j
  have A72 : ∀ j, 0 ≤ σ.2.1 72 j ∧ σ.2.1 72 j ≤ 999 := fun j => hT.2 72 j
  have A75 : ∀ j, 0 ≤ σ.2.1 75 j ∧ σ.2.1 75 j ≤ 3 := fun j => hT.2 75 j
  have A85 : ∀ j, (-2147483648) ≤ σ.2.1 85 j ∧ σ.2.1 85 j ≤ 2147483647 := fun j => hT.2 85 j
  have v3 : 0 ≤ σ.1 3 ∧ σ.1 3 ≤ 1000 := hT.1 3
  have v5 : 0 ≤ σ.1 5 ∧ σ.1 5 ≤ 1500 := hT.1 5
  have v46 : 0 ≤ σ.1 46 ∧ σ.1 46 ≤ 100 := hT.1 46
  have W3 : σ.1 3 = σ.1 3 := rfl
  have W5 : σ.1 5 = σ.1 5 := rfl
  have W46 : σ.1 46 = σ.1 46 := rfl
  have G8 : σ.2.1 8 = σ.2.1 8 := rfl
  have G10 : σ.2.1 10 = σ.2.1 10 := rfl
  have G14 : σ.2.1 14 = σ.2.1 14 := rfl
  have G15 : σ.2.1 15 = σ.2.1 15 := rfl
  have G16 : σ.2.1 16 = σ.2.1 16 := rfl
  have G71 : σ.2.1 71 = σ.2.1 71 := rfl
  have G72 : σ.2.1 72 = σ.2.1 72 := rfl
  have G75 : σ.2.1 75 = σ.2.1 75 := rfl
  intro P61 P109 P132 P142 P169 P198 P273 P339 h61 h109 h132 h142 h169 h198 h273 h339
  have a14 := A14 n1
  have a15 := A15 n1
  have nn1 := y_nn1 n1 p3
  have nn2 : y_nn σ n1 = σ.2.1 15 n1 - 1 := rfl
  have B16 := A16
  have hTσ := hT
  have l46 := v46
  have FC : ∀ k s : Int, s = σ.2.1 16 (σ.2.1 14 n1 + k) → (σ.2.1 8 s = 0 → y_f σ n1 k = s ∧ 0 ≤ s) ∧ (¬ σ.2.1 8 s = 0 → y_f σ n1 k = -2 - σ.2.1 10 s ∧ (1 ≤ k → k ≤ y_nn σ n1 → 0 ≤ σ.2.1 10 s ∧ σ.2.1 10 s < σ.1 3)) := fun k s e => by (have b := B16 (σ.2.1 14 n1 + k); rw [← e] at b; refine ⟨fun z => ⟨?_, b.1⟩, fun z => ?_⟩; (unfold y_f; rw [← e, if_pos z]); (have e2 : y_f σ n1 k = -2 - σ.2.1 10 s := (by unfold y_f; rw [← e, if_neg z]); have t10 := hTσ.2 10 s; have t11 : -1 ≤ σ.2.1 10 s := t10.1; refine ⟨e2, fun k1 kn => ?_⟩; have w := p4 k k1 kn (by omega); omega))
  have l_142 : ∀ (m_142 : Nat) (u4_142 : Int) (u5_142 : Int) (u6_142 : Int) (τ_142 : S0), 62 - u6_142 < (m_142 : Int) → (m_T τ_142) → (τ_142.1 3 = σ.1 3) → (τ_142.1 5 = σ.1 5) → (τ_142.1 46 = σ.1 46) → (τ_142.2.1 8 = σ.2.1 8) → (τ_142.2.1 10 = σ.2.1 10) → (τ_142.2.1 14 = σ.2.1 14) → (τ_142.2.1 15 = σ.2.1 15) → (τ_142.2.1 16 = σ.2.1 16) → (τ_142.2.1 71 = σ.2.1 71) → (τ_142.2.1 72 = σ.2.1 72) → (τ_142.2.1 75 = σ.2.1 75) → (u4_142 = y_nn σ n1) → (u5_142 = σ.2.1 14 n1 + 1) → (y_nn σ n1 ≤ n3 - n2) → (1 ≤ u6_142) → (u6_142 ≤ y_nn σ n1 + 1) → (∀ k : Int, 0 ≤ k → k < u6_142 → y_f0 (σ.2.1 72) (y_W1 (σ.1 3) (σ.2.1 71) (σ.2.1 75)) (y_f σ n1) n2 n3 (y_nn σ n1) (τ_142.2.1 85) k) → P142 n2 n3 u4_142 u5_142 u6_142 τ_142 := by
    intro m_142
    induction m_142 with
    | zero =>
      intro u4_142 u5_142 u6_142 τ_142 hm hT W3 W5 W46 G8 G10 G14 G15 G16 G71 G72 G75 i142_1 i142_2 i142_3 i142_4 i142_5 i142_6
      have A8 : ∀ j, 0 ≤ τ_142.2.1 8 j ∧ τ_142.2.1 8 j ≤ 1 := fun j => hT.2 8 j
      have A10 : ∀ j, (-1) ≤ τ_142.2.1 10 j ∧ τ_142.2.1 10 j ≤ 999 := fun j => hT.2 10 j
      have A14 : ∀ j, 0 ≤ τ_142.2.1 14 j ∧ τ_142.2.1 14 j ≤ 30000 := fun j => hT.2 14 j
      have A15 : ∀ j, 0 ≤ τ_142.2.1 15 j ∧ τ_142.2.1 15 j ≤ 300 := fun j => hT.2 15 j
      have A16 : ∀ j, 0 ≤ τ_142.2.1 16 j ∧ τ_142.2.1 16 j ≤ 999 := fun j => hT.2 16 j
      have A71 : ∀ j, (-1) ≤ τ_142.2.1 71 j ∧ τ_142.2.1 71 j ≤ 99 := fun j => hT.2 71 j
      have A72 : ∀ j, 0 ≤ τ_142.2.1 72 j ∧ τ_142.2.1 72 j ≤ 999 := fun j => hT.2 72 j
      have A75 : ∀ j, 0 ≤ τ_142.2.1 75 j ∧ τ_142.2.1 75 j ≤ 3 := fun j => hT.2 75 j
      have A85 : ∀ j, (-2147483648) ≤ τ_142.2.1 85 j ∧ τ_142.2.1 85 j ≤ 2147483647 := fun j => hT.2 85 j
      have v3 : 0 ≤ τ_142.1 3 ∧ τ_142.1 3 ≤ 1000 := hT.1 3
      have v5 : 0 ≤ τ_142.1 5 ∧ τ_142.1 5 ≤ 1500 := hT.1 5
      have v46 : 0 ≤ τ_142.1 46 ∧ τ_142.1 46 ≤ 100 := hT.1 46
      exfalso; (first | omega | (simp only [st_s] <;> omega) | assumption | omega | fail)
    | succ m_142 ih_142 =>
      intro u4_142 u5_142 u6_142 τ_142 hm_142 hT W3 W5 W46 G8 G10 G14 G15 G16 G71 G72 G75 i142_1 i142_2 i142_3 i142_4 i142_5 i142_6
      have A8 : ∀ j, 0 ≤ τ_142.2.1 8 j ∧ τ_142.2.1 8 j ≤ 1 := fun j => hT.2 8 j
      have A10 : ∀ j, (-1) ≤ τ_142.2.1 10 j ∧ τ_142.2.1 10 j ≤ 999 := fun j => hT.2 10 j
      have A14 : ∀ j, 0 ≤ τ_142.2.1 14 j ∧ τ_142.2.1 14 j ≤ 30000 := fun j => hT.2 14 j
      have A15 : ∀ j, 0 ≤ τ_142.2.1 15 j ∧ τ_142.2.1 15 j ≤ 300 := fun j => hT.2 15 j
      have A16 : ∀ j, 0 ≤ τ_142.2.1 16 j ∧ τ_142.2.1 16 j ≤ 999 := fun j => hT.2 16 j
      have A71 : ∀ j, (-1) ≤ τ_142.2.1 71 j ∧ τ_142.2.1 71 j ≤ 99 := fun j => hT.2 71 j
      have A72 : ∀ j, 0 ≤ τ_142.2.1 72 j ∧ τ_142.2.1 72 j ≤ 999 := fun j => hT.2 72 j
      have A75 : ∀ j, 0 ≤ τ_142.2.1 75 j ∧ τ_142.2.1 75 j ≤ 3 := fun j => hT.2 75 j
      have A85 : ∀ j, (-2147483648) ≤ τ_142.2.1 85 j ∧ τ_142.2.1 85 j ≤ 2147483647 := fun j => hT.2 85 j
      have v3 : 0 ≤ τ_142.1 3 ∧ τ_142.1 3 ≤ 1000 := hT.1 3
      have v5 : 0 ≤ τ_142.1 5 ∧ τ_142.1 5 ≤ 1500 := hT.1 5
      have v46 : 0 ≤ τ_142.1 46 ∧ τ_142.1 46 ≤ 100 := hT.1 46
      have l_198 : ∀ (m_198 : Nat) (u4_198 : Int) (u5_198 : Int) (u6_198 : Int) (u7_198 : Int) (u8_198 : Int) (u9_198 : Int) (τ_198 : S0), 61 - u9_198 < (m_198 : Int) → (m_T τ_198) → (τ_198.1 3 = σ.1 3) → (τ_198.1 5 = σ.1 5) → (τ_198.1 46 = σ.1 46) → (τ_198.2.1 8 = σ.2.1 8) → (τ_198.2.1 10 = σ.2.1 10) → (τ_198.2.1 14 = σ.2.1 14) → (τ_198.2.1 15 = σ.2.1 15) → (τ_198.2.1 16 = σ.2.1 16) → (τ_198.2.1 71 = σ.2.1 71) → (τ_198.2.1 72 = σ.2.1 72) → (τ_198.2.1 75 = σ.2.1 75) → (u4_198 = y_nn σ n1) → (u5_198 = σ.2.1 14 n1 + 1) → (y_nn σ n1 ≤ n3 - n2) → (1 ≤ u6_198) → (u6_198 ≤ y_nn σ n1) → (u7_198 = σ.2.1 16 (σ.2.1 14 n1 + u6_198)) → (0 ≤ u8_198 ∧ u8_198 ≤ 130 * (u9_198 - n2)) → (n2 ≤ u9_198) → (u9_198 ≤ n3) → (∀ k : Int, 0 ≤ k → k < u6_198 → y_f0 (σ.2.1 72) (y_W1 (σ.1 3) (σ.2.1 71) (σ.2.1 75)) (y_f σ n1) n2 n3 (y_nn σ n1) (τ_198.2.1 85) k) → (y_f1 (σ.2.1 72) (y_W1 (σ.1 3) (σ.2.1 71) (σ.2.1 75)) (y_f σ n1) n2 n3 (y_nn σ n1) (τ_198.2.1 85) u6_198 u9_198) → (y_f2 (σ.2.1 72) (y_W1 (σ.1 3) (σ.2.1 71) (σ.2.1 75)) (y_f σ n1) n2 n3 (y_nn σ n1) u6_198 u9_198 u8_198) → (u6_198 + (m_142 : Int) ≥ 62) → P198 n2 n3 u4_198 u5_198 u6_198 u7_198 u8_198 u9_198 τ_198 := by
        intro m_198
        induction m_198 with
        | zero =>
          intro u4_198 u5_198 u6_198 u7_198 u8_198 u9_198 τ_198 hm hT W3 W5 W46 G8 G10 G14 G15 G16 G71 G72 G75 i198_1 i198_2 i198_3 i198_4 i198_5 i198_6 i198_7 i198_8 i198_9 i198_10 i198_11 i198_12 i198_13
          have A8 : ∀ j, 0 ≤ τ_198.2.1 8 j ∧ τ_198.2.1 8 j ≤ 1 := fun j => hT.2 8 j
          have A10 : ∀ j, (-1) ≤ τ_198.2.1 10 j ∧ τ_198.2.1 10 j ≤ 999 := fun j => hT.2 10 j
          have A14 : ∀ j, 0 ≤ τ_198.2.1 14 j ∧ τ_198.2.1 14 j ≤ 30000 := fun j => hT.2 14 j
          have A15 : ∀ j, 0 ≤ τ_198.2.1 15 j ∧ τ_198.2.1 15 j ≤ 300 := fun j => hT.2 15 j
          have A16 : ∀ j, 0 ≤ τ_198.2.1 16 j ∧ τ_198.2.1 16 j ≤ 999 := fun j => hT.2 16 j
          have A71 : ∀ j, (-1) ≤ τ_198.2.1 71 j ∧ τ_198.2.1 71 j ≤ 99 := fun j => hT.2 71 j
          have A72 : ∀ j, 0 ≤ τ_198.2.1 72 j ∧ τ_198.2.1 72 j ≤ 999 := fun j => hT.2 72 j
          have A75 : ∀ j, 0 ≤ τ_198.2.1 75 j ∧ τ_198.2.1 75 j ≤ 3 := fun j => hT.2 75 j
          have A85 : ∀ j, (-2147483648) ≤ τ_198.2.1 85 j ∧ τ_198.2.1 85 j ≤ 2147483647 := fun j => hT.2 85 j
          have v3 : 0 ≤ τ_198.1 3 ∧ τ_198.1 3 ≤ 1000 := hT.1 3
          have v5 : 0 ≤ τ_198.1 5 ∧ τ_198.1 5 ≤ 1500 := hT.1 5
          have v46 : 0 ≤ τ_198.1 46 ∧ τ_198.1 46 ≤ 100 := hT.1 46
          exfalso; (first | omega | (simp only [st_s] <;> omega) | assumption | omega | fail)
        | succ m_198 ih_198 =>
          intro u4_198 u5_198 u6_198 u7_198 u8_198 u9_198 τ_198 hm_198 hT W3 W5 W46 G8 G10 G14 G15 G16 G71 G72 G75 i198_1 i198_2 i198_3 i198_4 i198_5 i198_6 i198_7 i198_8 i198_9 i198_10 i198_11 i198_12 i198_13
          have A8 : ∀ j, 0 ≤ τ_198.2.1 8 j ∧ τ_198.2.1 8 j ≤ 1 := fun j => hT.2 8 j
          have A10 : ∀ j, (-1) ≤ τ_198.2.1 10 j ∧ τ_198.2.1 10 j ≤ 999 := fun j => hT.2 10 j
          have A14 : ∀ j, 0 ≤ τ_198.2.1 14 j ∧ τ_198.2.1 14 j ≤ 30000 := fun j => hT.2 14 j
          have A15 : ∀ j, 0 ≤ τ_198.2.1 15 j ∧ τ_198.2.1 15 j ≤ 300 := fun j => hT.2 15 j
          have A16 : ∀ j, 0 ≤ τ_198.2.1 16 j ∧ τ_198.2.1 16 j ≤ 999 := fun j => hT.2 16 j
          have A71 : ∀ j, (-1) ≤ τ_198.2.1 71 j ∧ τ_198.2.1 71 j ≤ 99 := fun j => hT.2 71 j
          have A72 : ∀ j, 0 ≤ τ_198.2.1 72 j ∧ τ_198.2.1 72 j ≤ 999 := fun j => hT.2 72 j
          have A75 : ∀ j, 0 ≤ τ_198.2.1 75 j ∧ τ_198.2.1 75 j ≤ 3 := fun j => hT.2 75 j
          have A85 : ∀ j, (-2147483648) ≤ τ_198.2.1 85 j ∧ τ_198.2.1 85 j ≤ 2147483647 := fun j => hT.2 85 j
          have v3 : 0 ≤ τ_198.1 3 ∧ τ_198.1 3 ≤ 1000 := hT.1 3
          have v5 : 0 ≤ τ_198.1 5 ∧ τ_198.1 5 ≤ 1500 := hT.1 5
          have v46 : 0 ≤ τ_198.1 46 ∧ τ_198.1 46 ≤ 100 := hT.1 46
          have fcs := FC u6_198 u7_198 i198_6
          have tb : 0 ≤ u7_198 ∧ u7_198 ≤ 999 := by (rw [i198_6]; exact B16 _)
          have rw0 := i198_10 (u6_198 - 1) (by omega) (by omega)
          have l_339 : ∀ (m_339 : Nat) (u4_339 : Int) (u5_339 : Int) (u6_339 : Int) (u7_339 : Int) (u8_339 : Int) (u9_339 : Int) (u10_339 : Int) (u11_339 : Int) (u12_339 : Int) (u13_339 : Int) (τ_339 : S0), 62 - u13_339 < (m_339 : Int) → (m_T τ_339) → (τ_339.1 3 = σ.1 3) → (τ_339.1 5 = σ.1 5) → (τ_339.1 46 = σ.1 46) → (τ_339.2.1 8 = σ.2.1 8) → (τ_339.2.1 10 = σ.2.1 10) → (τ_339.2.1 14 = σ.2.1 14) → (τ_339.2.1 15 = σ.2.1 15) → (τ_339.2.1 16 = σ.2.1 16) → (τ_339.2.1 71 = σ.2.1 71) → (τ_339.2.1 72 = σ.2.1 72) → (τ_339.2.1 75 = σ.2.1 75) → (u4_339 = y_nn σ n1) → (u5_339 = σ.2.1 14 n1 + 1) → (y_nn σ n1 ≤ n3 - n2) → (1 ≤ u6_339) → (u6_339 ≤ y_nn σ n1) → (u7_339 = σ.2.1 16 (σ.2.1 14 n1 + u6_339)) → (0 ≤ u8_339 ∧ u8_339 ≤ 130 * (u9_339 - n2) + 2 * (u13_339 - u9_339)) → (n2 ≤ u9_339) → (u9_339 < n3) → (∀ k : Int, 0 ≤ k → k < u6_339 → y_f0 (σ.2.1 72) (y_W1 (σ.1 3) (σ.2.1 71) (σ.2.1 75)) (y_f σ n1) n2 n3 (y_nn σ n1) (τ_339.2.1 85) k) → (y_f3 (σ.2.1 72) (y_W1 (σ.1 3) (σ.2.1 71) (σ.2.1 75)) (y_f σ n1) n2 n3 (y_nn σ n1) (τ_339.2.1 85) u6_339 u9_339 u13_339) → (y_f4 (σ.2.1 72) (y_W1 (σ.1 3) (σ.2.1 71) (σ.2.1 75)) (y_f σ n1) n2 n3 (y_nn σ n1) u6_339 u9_339 u13_339 u8_339) → (u6_339 + (m_142 : Int) ≥ 62) → (1 ≤ u10_339 ∧ u10_339 ≤ 2) → (u9_339 ≤ n3 - (y_nn σ n1 - (u6_339 - 1)) → y_p1 (σ.2.1 72) (y_W1 (σ.1 3) (σ.2.1 71) (σ.2.1 75)) (y_f σ n1) n2 (u6_339 - 1).toNat u9_339) → (y_f σ n1 u6_339 < 0) → (u11_339 = σ.2.1 71 (-2 - y_f σ n1 u6_339)) → (u12_339 = n3 - (y_nn σ n1 - u6_339)) → (u9_339 < u13_339) → (u9_339 + (m_198 : Int) ≥ 61) → (u13_339 ≤ n3 + 1) → P339 n2 n3 u4_339 u5_339 u6_339 u7_339 u8_339 u9_339 u10_339 u11_339 u12_339 u13_339 τ_339 := by
            intro m_339
            induction m_339 with
            | zero =>
              intro u4_339 u5_339 u6_339 u7_339 u8_339 u9_339 u10_339 u11_339 u12_339 u13_339 τ_339 hm hT W3 W5 W46 G8 G10 G14 G15 G16 G71 G72 G75 i339_1 i339_2 i339_3 i339_4 i339_5 i339_6 i339_7 i339_8 i339_9 i339_10 i339_11 i339_12 i339_13 i339_14 i339_15 i339_16 i339_17 i339_18 i339_19 i339_20 i339_21
              have A8 : ∀ j, 0 ≤ τ_339.2.1 8 j ∧ τ_339.2.1 8 j ≤ 1 := fun j => hT.2 8 j
              have A10 : ∀ j, (-1) ≤ τ_339.2.1 10 j ∧ τ_339.2.1 10 j ≤ 999 := fun j => hT.2 10 j
              have A14 : ∀ j, 0 ≤ τ_339.2.1 14 j ∧ τ_339.2.1 14 j ≤ 30000 := fun j => hT.2 14 j
              have A15 : ∀ j, 0 ≤ τ_339.2.1 15 j ∧ τ_339.2.1 15 j ≤ 300 := fun j => hT.2 15 j
              have A16 : ∀ j, 0 ≤ τ_339.2.1 16 j ∧ τ_339.2.1 16 j ≤ 999 := fun j => hT.2 16 j
              have A71 : ∀ j, (-1) ≤ τ_339.2.1 71 j ∧ τ_339.2.1 71 j ≤ 99 := fun j => hT.2 71 j
              have A72 : ∀ j, 0 ≤ τ_339.2.1 72 j ∧ τ_339.2.1 72 j ≤ 999 := fun j => hT.2 72 j
              have A75 : ∀ j, 0 ≤ τ_339.2.1 75 j ∧ τ_339.2.1 75 j ≤ 3 := fun j => hT.2 75 j
              have A85 : ∀ j, (-2147483648) ≤ τ_339.2.1 85 j ∧ τ_339.2.1 85 j ≤ 2147483647 := fun j => hT.2 85 j
              have v3 : 0 ≤ τ_339.1 3 ∧ τ_339.1 3 ≤ 1000 := hT.1 3
              have v5 : 0 ≤ τ_339.1 5 ∧ τ_339.1 5 ≤ 1500 := hT.1 5
              have v46 : 0 ≤ τ_339.1 46 ∧ τ_339.1 46 ≤ 100 := hT.1 46
              exfalso; (have rng := p4 u6_339 i339_4 i339_5 i339_16; omega)
            | succ m_339 ih_339 =>
              intro u4_339 u5_339 u6_339 u7_339 u8_339 u9_339 u10_339 u11_339 u12_339 u13_339 τ_339 hm_339 hT W3 W5 W46 G8 G10 G14 G15 G16 G71 G72 G75 i339_1 i339_2 i339_3 i339_4 i339_5 i339_6 i339_7 i339_8 i339_9 i339_10 i339_11 i339_12 i339_13 i339_14 i339_15 i339_16 i339_17 i339_18 i339_19 i339_20 i339_21
              have A8 : ∀ j, 0 ≤ τ_339.2.1 8 j ∧ τ_339.2.1 8 j ≤ 1 := fun j => hT.2 8 j
              have A10 : ∀ j, (-1) ≤ τ_339.2.1 10 j ∧ τ_339.2.1 10 j ≤ 999 := fun j => hT.2 10 j
              have A14 : ∀ j, 0 ≤ τ_339.2.1 14 j ∧ τ_339.2.1 14 j ≤ 30000 := fun j => hT.2 14 j
              have A15 : ∀ j, 0 ≤ τ_339.2.1 15 j ∧ τ_339.2.1 15 j ≤ 300 := fun j => hT.2 15 j
              have A16 : ∀ j, 0 ≤ τ_339.2.1 16 j ∧ τ_339.2.1 16 j ≤ 999 := fun j => hT.2 16 j
              have A71 : ∀ j, (-1) ≤ τ_339.2.1 71 j ∧ τ_339.2.1 71 j ≤ 99 := fun j => hT.2 71 j
              have A72 : ∀ j, 0 ≤ τ_339.2.1 72 j ∧ τ_339.2.1 72 j ≤ 999 := fun j => hT.2 72 j
              have A75 : ∀ j, 0 ≤ τ_339.2.1 75 j ∧ τ_339.2.1 75 j ≤ 3 := fun j => hT.2 75 j
              have A85 : ∀ j, (-2147483648) ≤ τ_339.2.1 85 j ∧ τ_339.2.1 85 j ≤ 2147483647 := fun j => hT.2 85 j
              have v3 : 0 ≤ τ_339.1 3 ∧ τ_339.1 3 ≤ 1000 := hT.1 3
              have v5 : 0 ≤ τ_339.1 5 ∧ τ_339.1 5 ≤ 1500 := hT.1 5
              have v46 : 0 ≤ τ_339.1 46 ∧ τ_339.1 46 ≤ 100 := hT.1 46
              have rng := p4 u6_339 i339_4 i339_5 i339_16
              have t71 := hTσ.2 71 (-2 - y_f σ n1 u6_339)
              have t72 : σ.2.1 71 (-2 - y_f σ n1 u6_339) ≤ 99 := t71.2
              have t73 : -1 ≤ σ.2.1 71 (-2 - y_f σ n1 u6_339) := t71.1
              refine h339 n2 n3 u4_339 u5_339 u6_339 u7_339 u8_339 u9_339 u10_339 u11_339 u12_339 u13_339 τ_339 ?_
              refine ⟨fun c59 => ?_, fun c59 => ?_⟩
              ·
                refine ⟨(⟨by (first | omega | (simp only [st_s] <;> omega) | assumption | omega | fail), by (first | omega | (simp only [st_s] <;> omega) | assumption | omega | fail)⟩ : rg (u9_339 + 1)), ?_⟩
                exact ih_198 _ _ _ _ _ _ _ (show (61 - (u9_339 + 1) : Int) < ((m_198 : Nat) : Int) from by ((first | omega | (simp only [st_s] <;> omega) | assumption | omega | fail))) hT (show τ_339.1 3 = σ.1 3 from by first | exact W3 | omega) (show τ_339.1 5 = σ.1 5 from by first | exact W5 | omega) (show τ_339.1 46 = σ.1 46 from by first | exact W46 | omega) G8 G10 G14 G15 G16 G71 G72 G75 (show u4_339 = y_nn σ n1 from by (first | omega | (simp only [st_s] <;> omega) | assumption | omega | fail)) (show u5_339 = σ.2.1 14 n1 + 1 from by (first | omega | (simp only [st_s] <;> omega) | assumption | omega | fail)) (show y_nn σ n1 ≤ n3 - n2 from by (first | omega | (simp only [st_s] <;> omega) | assumption | omega | fail)) (show 1 ≤ u6_339 from by (first | omega | (simp only [st_s] <;> omega) | assumption | omega | fail)) (show u6_339 ≤ y_nn σ n1 from by (first | omega | (simp only [st_s] <;> omega) | assumption | omega | fail)) (show u7_339 = σ.2.1 16 (σ.2.1 14 n1 + u6_339) from by (first | omega | (simp only [st_s] <;> omega) | assumption | omega | fail)) (show 0 ≤ u8_339 ∧ u8_339 ≤ 130 * ((u9_339 + 1) - n2) from by (first | omega | (simp only [st_s] <;> omega) | assumption | omega | fail)) (show n2 ≤ (u9_339 + 1) from by (first | omega | (simp only [st_s] <;> omega) | assumption | omega | fail)) (show (u9_339 + 1) ≤ n3 from by (first | omega | (simp only [st_s] <;> omega) | assumption | omega | fail)) (show ∀ k : Int, 0 ≤ k → k < u6_339 → y_f0 (σ.2.1 72) (y_W1 (σ.1 3) (σ.2.1 71) (σ.2.1 75)) (y_f σ n1) n2 n3 (y_nn σ n1) (τ_339.2.1 85) k from by (first | exact i169_10 | exact i198_10 | exact i339_10 | (rw [e_τ_273]; exact i198_10) | (intro k a b; rw [e54]; exact y_f0_x (i198_10 k a b) p5 (by omega) (by omega)) | fail)) (show y_f1 (σ.2.1 72) (y_W1 (σ.1 3) (σ.2.1 71) (σ.2.1 75)) (y_f σ n1) n2 n3 (y_nn σ n1) (τ_339.2.1 85) u6_339 (u9_339 + 1) from by (first | exact y_f1_0 (fun q a b => i169_11 q a (by omega)) | exact y_f3_e i339_11 i339_16 i339_8 (Or.inr (by omega)) | exact y_f3_e i339_11 i339_16 i339_8 (Or.inl (fun q w => by (have w1 := w.1.2.2; omega))) | exact y_f1_n i198_11 (by omega) (fun l => fun y => absurd ((h41.2 l).mpr y) (by omega)) | (rw [e54]; exact y_f1_c i198_11 (by omega) (by omega) (by (have w := fcs.1 (by omega); omega)) h41.1 (by assumption) (fun l => (h41.2 l).mp (by assumption)) (by (have w := fcs.1 (by omega); rw [← e54, ← e_x54]; omega))) | fail)) (show y_f2 (σ.2.1 72) (y_W1 (σ.1 3) (σ.2.1 71) (σ.2.1 75)) (y_f σ n1) n2 n3 (y_nn σ n1) u6_339 (u9_339 + 1) u8_339 from by (first | (intro a p q b c d e g; exfalso; omega) | exact y_f4_e i339_12 i339_16 (Or.inr (by omega)) | exact y_f4_e i339_12 i339_16 (Or.inl (fun q w => by (have w1 := w.1.2.2; omega))) | exact y_f2_n i198_12 (fun l => fun y => absurd ((h41.2 l).mpr y) (by omega)) | exact y_f2_c i198_12 (by (have w := fcs.1 (by omega); omega)) (by omega) (by (have w := fcs.1 (by omega); omega)) | fail)) (show u6_339 + (m_142 : Int) ≥ 62 from by (first | omega | (simp only [st_s] <;> omega) | assumption | omega | fail))
              ·
                refine ⟨fun c61 => ?_, fun c61 => ?_⟩
                ·
                  refine ⟨(⟨by (first | omega | (simp only [st_s] <;> omega) | assumption | omega | fail), by (first | omega | (simp only [st_s] <;> omega) | assumption | omega | fail)⟩ : rg (u9_339 + 1)), ?_⟩
                  exact ih_198 _ _ _ _ _ _ _ (show (61 - (u9_339 + 1) : Int) < ((m_198 : Nat) : Int) from by ((first | omega | (simp only [st_s] <;> omega) | assumption | omega | fail))) hT (show τ_339.1 3 = σ.1 3 from by first | exact W3 | omega) (show τ_339.1 5 = σ.1 5 from by first | exact W5 | omega) (show τ_339.1 46 = σ.1 46 from by first | exact W46 | omega) G8 G10 G14 G15 G16 G71 G72 G75 (show u4_339 = y_nn σ n1 from by (first | omega | (simp only [st_s] <;> omega) | assumption | omega | fail)) (show u5_339 = σ.2.1 14 n1 + 1 from by (first | omega | (simp only [st_s] <;> omega) | assumption | omega | fail)) (show y_nn σ n1 ≤ n3 - n2 from by (first | omega | (simp only [st_s] <;> omega) | assumption | omega | fail)) (show 1 ≤ u6_339 from by (first | omega | (simp only [st_s] <;> omega) | assumption | omega | fail)) (show u6_339 ≤ y_nn σ n1 from by (first | omega | (simp only [st_s] <;> omega) | assumption | omega | fail)) (show u7_339 = σ.2.1 16 (σ.2.1 14 n1 + u6_339) from by (first | omega | (simp only [st_s] <;> omega) | assumption | omega | fail)) (show 0 ≤ u8_339 ∧ u8_339 ≤ 130 * ((u9_339 + 1) - n2) from by (first | omega | (simp only [st_s] <;> omega) | assumption | omega | fail)) (show n2 ≤ (u9_339 + 1) from by (first | omega | (simp only [st_s] <;> omega) | assumption | omega | fail)) (show (u9_339 + 1) ≤ n3 from by (first | omega | (simp only [st_s] <;> omega) | assumption | omega | fail)) (show ∀ k : Int, 0 ≤ k → k < u6_339 → y_f0 (σ.2.1 72) (y_W1 (σ.1 3) (σ.2.1 71) (σ.2.1 75)) (y_f σ n1) n2 n3 (y_nn σ n1) (τ_339.2.1 85) k from by (first | exact i169_10 | exact i198_10 | exact i339_10 | (rw [e_τ_273]; exact i198_10) | (intro k a b; rw [e54]; exact y_f0_x (i198_10 k a b) p5 (by omega) (by omega)) | fail)) (show y_f1 (σ.2.1 72) (y_W1 (σ.1 3) (σ.2.1 71) (σ.2.1 75)) (y_f σ n1) n2 n3 (y_nn σ n1) (τ_339.2.1 85) u6_339 (u9_339 + 1) from by (first | exact y_f1_0 (fun q a b => i169_11 q a (by omega)) | exact y_f3_e i339_11 i339_16 i339_8 (Or.inr (by omega)) | exact y_f3_e i339_11 i339_16 i339_8 (Or.inl (fun q w => by (have w1 := w.1.2.2; omega))) | exact y_f1_n i198_11 (by omega) (fun l => fun y => absurd ((h41.2 l).mpr y) (by omega)) | (rw [e54]; exact y_f1_c i198_11 (by omega) (by omega) (by (have w := fcs.1 (by omega); omega)) h41.1 (by assumption) (fun l => (h41.2 l).mp (by assumption)) (by (have w := fcs.1 (by omega); rw [← e54, ← e_x54]; omega))) | fail)) (show y_f2 (σ.2.1 72) (y_W1 (σ.1 3) (σ.2.1 71) (σ.2.1 75)) (y_f σ n1) n2 n3 (y_nn σ n1) u6_339 (u9_339 + 1) u8_339 from by (first | (intro a p q b c d e g; exfalso; omega) | exact y_f4_e i339_12 i339_16 (Or.inr (by omega)) | exact y_f4_e i339_12 i339_16 (Or.inl (fun q w => by (have w1 := w.1.2.2; omega))) | exact y_f2_n i198_12 (fun l => fun y => absurd ((h41.2 l).mpr y) (by omega)) | exact y_f2_c i198_12 (by (have w := fcs.1 (by omega); omega)) (by omega) (by (have w := fcs.1 (by omega); omega)) | fail)) (show u6_339 + (m_142 : Int) ≥ 62 from by (first | omega | (simp only [st_s] <;> omega) | assumption | omega | fail))
                ·
                  refine ⟨_, K_X13_wayAt hT (show 0 ≤ u11_339 ∧ u11_339 ≤ 99 from by (first | omega | (simp only [st_s] <;> omega) | assumption | omega | fail)) (show 0 ≤ u9_339 ∧ u9_339 ≤ 60 from by (first | omega | (simp only [st_s] <;> omega) | assumption | omega | fail)) (show 0 ≤ u13_339 ∧ u13_339 ≤ 60 from by (first | omega | (simp only [st_s] <;> omega) | assumption | omega | fail)), ?_⟩
                  intro x64 r_x64 hq
                  obtain ⟨q63_1, q63_2⟩ := hq
                  replace q63_1 : x64 = (u11_339 * 61 + u9_339) * 61 + u13_339 := q63_1
                  replace q63_2 : 0 ≤ x64 ∧ x64 < 372100 := q63_2
                  have s11 := i339_17
                  have b11 : 0 ≤ u11_339 := by omega
                  refine ⟨(show 0 ≤ x64 ∧ x64 < 372100 from by (first | omega | (simp only [st_s] <;> omega) | assumption | omega | fail)), ?_⟩
                  intro x67 r_x67 e_x67
                  have b_x67 : 0 ≤ x67 ∧ x67 ≤ 3 := by rw [e_x67]; exact hT.2 75 _
                  rw [G75, q63_1] at e_x67
                  have w67 := p8 (-2 - y_f σ n1 u6_339) u9_339 u13_339 rng.1 rng.2 (by omega) (by omega) (by omega) (by omega)
                  have ww : 1 ≤ x67 ↔ y_W1 (σ.1 3) (σ.2.1 71) (σ.2.1 75) (-2 - y_f σ n1 u6_339) u9_339 u13_339 := by (unfold y_W1; rw [← i339_17, ← e_x67]; exact ⟨fun y => ⟨⟨rng.1, rng.2, by omega⟩, y⟩, fun y => y.2⟩)
                  rw [← i339_17, ← e_x67] at w67
                  have hm := Int.mul_nonneg (show 0 ≤ u10_339 by omega) w67.1
                  have hm2 := Int.mul_le_mul i339_14.2 w67.2 w67.1 (show (0 : Int) ≤ 2 by omega)
                  refine ⟨(show 0 ≤ ((61 * u6_339) + u13_339) ∧ ((61 * u6_339) + u13_339) < 3800 from by (first | omega | (simp only [st_s] <;> omega) | assumption | omega | fail)), ?_⟩
                  intro x69 r_x69 e_x69
                  have b_x69 : (-2147483648) ≤ x69 ∧ x69 ≤ 2147483647 := by rw [e_x69]; exact hT.2 85 _
                  have h69 := (i339_11 u13_339 (by omega) (by omega)).1
                  rw [← e_x69] at h69
                  refine ⟨(⟨by (first | omega | (simp only [st_s] <;> omega) | assumption | omega | fail), by (first | omega | (simp only [st_s] <;> omega) | assumption | omega | fail)⟩ : rg (x69 + (u10_339 * x67))), ?_⟩
                  refine ⟨_, K_X13_capped hT, ?_⟩
                  intro x72 r_x72 hq
                  have q71_1 := hq
                  replace q71_1 : ((x69 + (u10_339 * x67)) ≤ 2 ∧ x72 = (x69 + (u10_339 * x67))) ∨ (2 < (x69 + (u10_339 * x67)) ∧ x72 = 2) := q71_1
                  replace hT := mT_a (k := 85) (j := ((61 * u6_339) + u13_339)) hT (show (-2147483648 : Int) ≤ x72 ∧ x72 ≤ 2147483647 from by (first | omega | (simp only [st_s] <;> omega) | assumption | omega | fail))
                  refine ⟨(⟨by (first | omega | (simp only [st_s] <;> omega) | assumption | omega | fail), by (first | omega | (simp only [st_s] <;> omega) | assumption | omega | fail)⟩ : rg (u8_339 + x67)), ?_⟩
                  refine ⟨(⟨by (first | omega | (simp only [st_s] <;> omega) | assumption | omega | fail), by (first | omega | (simp only [st_s] <;> omega) | assumption | omega | fail)⟩ : rg (u13_339 + 1)), ?_⟩
                  exact ih_339 _ _ _ _ _ _ _ _ _ _ _ (show (62 - (u13_339 + 1) : Int) < ((m_339 : Nat) : Int) from by ((first | omega | (simp only [st_s] <;> omega) | assumption | omega | fail))) hT (show τ_339.1 3 = σ.1 3 from by first | exact W3 | omega) (show τ_339.1 5 = σ.1 5 from by first | exact W5 | omega) (show τ_339.1 46 = σ.1 46 from by first | exact W46 | omega) G8 G10 G14 G15 G16 G71 G72 G75 (show u4_339 = y_nn σ n1 from by (first | omega | (simp only [st_s] <;> omega) | assumption | omega | fail)) (show u5_339 = σ.2.1 14 n1 + 1 from by (first | omega | (simp only [st_s] <;> omega) | assumption | omega | fail)) (show y_nn σ n1 ≤ n3 - n2 from by (first | omega | (simp only [st_s] <;> omega) | assumption | omega | fail)) (show 1 ≤ u6_339 from by (first | omega | (simp only [st_s] <;> omega) | assumption | omega | fail)) (show u6_339 ≤ y_nn σ n1 from by (first | omega | (simp only [st_s] <;> omega) | assumption | omega | fail)) (show u7_339 = σ.2.1 16 (σ.2.1 14 n1 + u6_339) from by (first | omega | (simp only [st_s] <;> omega) | assumption | omega | fail)) (show 0 ≤ (u8_339 + x67) ∧ (u8_339 + x67) ≤ 130 * (u9_339 - n2) + 2 * ((u13_339 + 1) - u9_339) from by (first | omega | (simp only [st_s] <;> omega) | assumption | omega | fail)) (show n2 ≤ u9_339 from by (first | omega | (simp only [st_s] <;> omega) | assumption | omega | fail)) (show u9_339 < n3 from by (first | omega | (simp only [st_s] <;> omega) | assumption | omega | fail)) (show ∀ k : Int, 0 ≤ k → k < u6_339 → y_f0 (σ.2.1 72) (y_W1 (σ.1 3) (σ.2.1 71) (σ.2.1 75)) (y_f σ n1) n2 n3 (y_nn σ n1) ((st (τ_339.2.1 85) ((61 * u6_339) + u13_339) x72)) k from by (first | exact i198_10 | (intro k a b; exact y_f0_x (i339_10 k a b) p5 (by omega) (by omega)) | fail)) (show y_f3 (σ.2.1 72) (y_W1 (σ.1 3) (σ.2.1 71) (σ.2.1 75)) (y_f σ n1) n2 n3 (y_nn σ n1) ((st (τ_339.2.1 85) ((61 * u6_339) + u13_339) x72)) u6_339 u9_339 (u13_339 + 1) from by (first | exact y_f3_0 i198_11 (by omega) | exact y_f3_s i339_11 i339_16 (by omega) (by omega) (by omega) i339_14 w67 (fun l => i339_15 (by omega)) ww (by rw [← e_x69]; exact q71_1) | fail)) (show y_f4 (σ.2.1 72) (y_W1 (σ.1 3) (σ.2.1 71) (σ.2.1 75)) (y_f σ n1) n2 n3 (y_nn σ n1) u6_339 u9_339 (u13_339 + 1) (u8_339 + x67) from by (first | exact y_f4_0 i198_12 | exact y_f4_s i339_12 i339_16 (by omega) (by omega) ww | fail)) (show u6_339 + (m_142 : Int) ≥ 62 from by (first | omega | (simp only [st_s] <;> omega) | assumption | omega | fail)) (show 1 ≤ u10_339 ∧ u10_339 ≤ 2 from by (first | omega | (simp only [st_s] <;> omega) | assumption | omega | fail)) (show u9_339 ≤ n3 - (y_nn σ n1 - (u6_339 - 1)) → y_p1 (σ.2.1 72) (y_W1 (σ.1 3) (σ.2.1 71) (σ.2.1 75)) (y_f σ n1) n2 (u6_339 - 1).toNat u9_339 from by (first | exact i339_15 | (intro l; exact (h41.2 l).mp (by assumption)) | fail)) (show y_f σ n1 u6_339 < 0 from by (first | omega | (simp only [st_s] <;> omega) | assumption | omega | fail)) (show u11_339 = σ.2.1 71 (-2 - y_f σ n1 u6_339) from by (first | exact i339_17 | (rw [e_x48, show x46 = -2 - y_f σ n1 u6_198 from by omega]) | fail)) (show u12_339 = n3 - (y_nn σ n1 - u6_339) from by (first | omega | (simp only [st_s] <;> omega) | assumption | omega | fail)) (show u9_339 < (u13_339 + 1) from by (first | omega | (simp only [st_s] <;> omega) | assumption | omega | fail)) (show u9_339 + (m_198 : Int) ≥ 61 from by (first | omega | (simp only [st_s] <;> omega) | assumption | omega | fail)) (show (u13_339 + 1) ≤ n3 + 1 from by (first | omega | (simp only [st_s] <;> omega) | assumption | omega | fail))
          refine h198 n2 n3 u4_198 u5_198 u6_198 u7_198 u8_198 u9_198 τ_198 ?_
          refine ⟨fun c37 => ?_, fun c37 => ?_⟩
          ·
            refine ⟨fun c38 => ?_, fun c38 => ?_⟩
            ·
              refine ⟨(⟨by (first | omega | (simp only [st_s] <;> omega) | assumption | omega | fail), by (first | omega | (simp only [st_s] <;> omega) | assumption | omega | fail)⟩ : rg (u6_198 + 1)), ?_⟩
              exact ih_142 _ _ _ _ (show (62 - (u6_198 + 1) : Int) < ((m_142 : Nat) : Int) from by ((first | omega | (simp only [st_s] <;> omega) | assumption | omega | fail))) hT (show τ_198.1 3 = σ.1 3 from by first | exact W3 | omega) (show τ_198.1 5 = σ.1 5 from by first | exact W5 | omega) (show τ_198.1 46 = σ.1 46 from by first | exact W46 | omega) G8 G10 G14 G15 G16 G71 G72 G75 (show u4_198 = y_nn σ n1 from by (first | omega | (simp only [st_s] <;> omega) | assumption | omega | fail)) (show u5_198 = σ.2.1 14 n1 + 1 from by (first | omega | (simp only [st_s] <;> omega) | assumption | omega | fail)) (show y_nn σ n1 ≤ n3 - n2 from by (first | omega | (simp only [st_s] <;> omega) | assumption | omega | fail)) (show 1 ≤ (u6_198 + 1) from by (first | omega | (simp only [st_s] <;> omega) | assumption | omega | fail)) (show (u6_198 + 1) ≤ y_nn σ n1 + 1 from by (first | omega | (simp only [st_s] <;> omega) | assumption | omega | fail)) (show ∀ k : Int, 0 ≤ k → k < (u6_198 + 1) → y_f0 (σ.2.1 72) (y_W1 (σ.1 3) (σ.2.1 71) (σ.2.1 75)) (y_f σ n1) n2 n3 (y_nn σ n1) (τ_198.2.1 85) k from by (first | exact i142_6 | (intro k a b; rw [show k = 0 from by omega]; exact y_f0_0 (fun q c d => i109_6 q c (by omega))) | (intro k a b; rcases (by omega : k < u6_198 ∨ k = u6_198) with z | z; (exact i198_10 k a z); (rw [z]; exact y_f1_e (by omega) (by rw [show n3 = u9_198 from by omega]; rw [show u9_198 = n3 from by omega]; have w := i198_11; rw [show u9_198 = n3 from by omega] at w; exact w))) | fail))
            ·
              exact ⟨hT, (show y_p1 (σ.2.1 72) (y_W1 (σ.1 3) (σ.2.1 71) (σ.2.1 75)) (y_f σ n1) n2 (y_nn σ n1).toNat n3 → ∀ k : Int, 0 ≤ k → k ≤ y_nn σ n1 → y_f0 (σ.2.1 72) (y_W1 (σ.1 3) (σ.2.1 71) (σ.2.1 75)) (y_f σ n1) n2 n3 (y_nn σ n1) (τ_198.2.1 85) k from by (first | (intro y k a b; exact i142_6 k a (by omega)) | (intro y; exact absurd y (by (have w := i198_12; rw [show u9_198 = n3 from by omega] at w; exact y_f2_z w (by omega) (by omega) (by omega)))) | (intro y; have l := y_p1_l _ _ y; exfalso; omega) | (intro y; exfalso; have e1 := f8.1 (by omega); have z := y_p1_a1 y (by omega) (by omega); omega) | (intro y; exfalso; have e1 := f17.1 (by omega); have z := y_p1_z y (by omega) (by omega); omega) | fail))⟩
          ·
            refine ⟨(show 0 ≤ ((61 * (u6_198 - 1)) + u9_198) ∧ ((61 * (u6_198 - 1)) + u9_198) < 3800 from by (first | omega | (simp only [st_s] <;> omega) | assumption | omega | fail)), ?_⟩
            intro x41 r_x41 e_x41
            have b_x41 : (-2147483648) ≤ x41 ∧ x41 ≤ 2147483647 := by rw [e_x41]; exact hT.2 85 _
            have h41 := rw0 u9_198 (by omega) (by omega)
            rw [← e_x41] at h41
            refine ⟨fun c42 => ?_, fun c42 => ?_⟩
            ·
              refine ⟨(show 0 ≤ u7_198 ∧ u7_198 < 1001 from by (first | omega | (simp only [st_s] <;> omega) | assumption | omega | fail)), ?_⟩
              intro x44 r_x44 e_x44
              have b_x44 : 0 ≤ x44 ∧ x44 ≤ 1 := by rw [e_x44]; exact hT.2 8 _
              rw [G8] at e_x44
              refine ⟨fun c45 => ?_, fun c45 => ?_⟩
              ·
                intro x46 r_x46 e_x46
                have b_x46 : (-1) ≤ x46 ∧ x46 ≤ 999 := by rw [e_x46]; exact hT.2 10 _
                rw [G10] at e_x46
                have e46 := (fcs.2 (by omega)).1
                have r46 := (fcs.2 (by omega)).2 (by omega) (by omega)
                refine ⟨(show 0 ≤ x46 ∧ x46 < 1001 from by (first | omega | (simp only [st_s] <;> omega) | assumption | omega | fail)), ?_⟩
                intro x48 r_x48 e_x48
                have b_x48 : (-1) ≤ x48 ∧ x48 ≤ 99 := by rw [e_x48]; exact hT.2 71 _
                rw [G71] at e_x48
                refine ⟨fun c49 => ?_, fun c49 => ?_⟩
                ·
                  refine ⟨(⟨by (first | omega | (simp only [st_s] <;> omega) | assumption | omega | fail), by (first | omega | (simp only [st_s] <;> omega) | assumption | omega | fail)⟩ : rg (n3 - (u4_198 - u6_198))), ?_⟩
                  refine ⟨(⟨by (first | omega | (simp only [st_s] <;> omega) | assumption | omega | fail), by (first | omega | (simp only [st_s] <;> omega) | assumption | omega | fail)⟩ : rg (u9_198 + 1)), ?_⟩
                  exact l_339 ((62 - (u9_198 + 1) : Int).toNat + 1) _ _ _ _ _ _ _ _ _ _ _ (show (62 - (u9_198 + 1) : Int) < (((62 - (u9_198 + 1) : Int).toNat + 1 : Nat) : Int) from by ((first | omega | (simp only [st_s] <;> omega) | assumption | omega | fail))) hT (show τ_198.1 3 = σ.1 3 from by first | exact W3 | omega) (show τ_198.1 5 = σ.1 5 from by first | exact W5 | omega) (show τ_198.1 46 = σ.1 46 from by first | exact W46 | omega) G8 G10 G14 G15 G16 G71 G72 G75 (show u4_198 = y_nn σ n1 from by (first | omega | (simp only [st_s] <;> omega) | assumption | omega | fail)) (show u5_198 = σ.2.1 14 n1 + 1 from by (first | omega | (simp only [st_s] <;> omega) | assumption | omega | fail)) (show y_nn σ n1 ≤ n3 - n2 from by (first | omega | (simp only [st_s] <;> omega) | assumption | omega | fail)) (show 1 ≤ u6_198 from by (first | omega | (simp only [st_s] <;> omega) | assumption | omega | fail)) (show u6_198 ≤ y_nn σ n1 from by (first | omega | (simp only [st_s] <;> omega) | assumption | omega | fail)) (show u7_198 = σ.2.1 16 (σ.2.1 14 n1 + u6_198) from by (first | omega | (simp only [st_s] <;> omega) | assumption | omega | fail)) (show 0 ≤ u8_198 ∧ u8_198 ≤ 130 * (u9_198 - n2) + 2 * ((u9_198 + 1) - u9_198) from by (first | omega | (simp only [st_s] <;> omega) | assumption | omega | fail)) (show n2 ≤ u9_198 from by (first | omega | (simp only [st_s] <;> omega) | assumption | omega | fail)) (show u9_198 < n3 from by (first | omega | (simp only [st_s] <;> omega) | assumption | omega | fail)) (show ∀ k : Int, 0 ≤ k → k < u6_198 → y_f0 (σ.2.1 72) (y_W1 (σ.1 3) (σ.2.1 71) (σ.2.1 75)) (y_f σ n1) n2 n3 (y_nn σ n1) (τ_198.2.1 85) k from by (first | exact i198_10 | (intro k a b; exact y_f0_x (i339_10 k a b) p5 (by omega) (by omega)) | fail)) (show y_f3 (σ.2.1 72) (y_W1 (σ.1 3) (σ.2.1 71) (σ.2.1 75)) (y_f σ n1) n2 n3 (y_nn σ n1) (τ_198.2.1 85) u6_198 u9_198 (u9_198 + 1) from by (first | exact y_f3_0 i198_11 (by omega) | exact y_f3_s i339_11 i339_16 (by omega) (by omega) (by omega) i339_14 w67 (fun l => i339_15 (by omega)) ww (by rw [← e_x69]; exact q71_1) | fail)) (show y_f4 (σ.2.1 72) (y_W1 (σ.1 3) (σ.2.1 71) (σ.2.1 75)) (y_f σ n1) n2 n3 (y_nn σ n1) u6_198 u9_198 (u9_198 + 1) u8_198 from by (first | exact y_f4_0 i198_12 | exact y_f4_s i339_12 i339_16 (by omega) (by omega) ww | fail)) (show u6_198 + (m_142 : Int) ≥ 62 from by (first | omega | (simp only [st_s] <;> omega) | assumption | omega | fail)) (show 1 ≤ x41 ∧ x41 ≤ 2 from by (first | omega | (simp only [st_s] <;> omega) | assumption | omega | fail)) (show u9_198 ≤ n3 - (y_nn σ n1 - (u6_198 - 1)) → y_p1 (σ.2.1 72) (y_W1 (σ.1 3) (σ.2.1 71) (σ.2.1 75)) (y_f σ n1) n2 (u6_198 - 1).toNat u9_198 from by (first | exact i339_15 | (intro l; exact (h41.2 l).mp (by assumption)) | fail)) (show y_f σ n1 u6_198 < 0 from by (first | omega | (simp only [st_s] <;> omega) | assumption | omega | fail)) (show x48 = σ.2.1 71 (-2 - y_f σ n1 u6_198) from by (first | exact i339_17 | (rw [e_x48, show x46 = -2 - y_f σ n1 u6_198 from by omega]) | fail)) (show (n3 - (u4_198 - u6_198)) = n3 - (y_nn σ n1 - u6_198) from by (first | omega | (simp only [st_s] <;> omega) | assumption | omega | fail)) (show u9_198 < (u9_198 + 1) from by (first | omega | (simp only [st_s] <;> omega) | assumption | omega | fail)) (show u9_198 + (m_198 : Int) ≥ 61 from by (first | omega | (simp only [st_s] <;> omega) | assumption | omega | fail)) (show (u9_198 + 1) ≤ n3 + 1 from by (first | omega | (simp only [st_s] <;> omega) | assumption | omega | fail))
                ·
                  refine ⟨(⟨by (first | omega | (simp only [st_s] <;> omega) | assumption | omega | fail), by (first | omega | (simp only [st_s] <;> omega) | assumption | omega | fail)⟩ : rg (u9_198 + 1)), ?_⟩
                  exact l_339 ((62 - (u9_198 + 1) : Int).toNat + 1) _ _ _ _ _ _ _ _ _ _ _ (show (62 - (u9_198 + 1) : Int) < (((62 - (u9_198 + 1) : Int).toNat + 1 : Nat) : Int) from by ((first | omega | (simp only [st_s] <;> omega) | assumption | omega | fail))) hT (show τ_198.1 3 = σ.1 3 from by first | exact W3 | omega) (show τ_198.1 5 = σ.1 5 from by first | exact W5 | omega) (show τ_198.1 46 = σ.1 46 from by first | exact W46 | omega) G8 G10 G14 G15 G16 G71 G72 G75 (show u4_198 = y_nn σ n1 from by (first | omega | (simp only [st_s] <;> omega) | assumption | omega | fail)) (show u5_198 = σ.2.1 14 n1 + 1 from by (first | omega | (simp only [st_s] <;> omega) | assumption | omega | fail)) (show y_nn σ n1 ≤ n3 - n2 from by (first | omega | (simp only [st_s] <;> omega) | assumption | omega | fail)) (show 1 ≤ u6_198 from by (first | omega | (simp only [st_s] <;> omega) | assumption | omega | fail)) (show u6_198 ≤ y_nn σ n1 from by (first | omega | (simp only [st_s] <;> omega) | assumption | omega | fail)) (show u7_198 = σ.2.1 16 (σ.2.1 14 n1 + u6_198) from by (first | omega | (simp only [st_s] <;> omega) | assumption | omega | fail)) (show 0 ≤ u8_198 ∧ u8_198 ≤ 130 * (u9_198 - n2) + 2 * ((u9_198 + 1) - u9_198) from by (first | omega | (simp only [st_s] <;> omega) | assumption | omega | fail)) (show n2 ≤ u9_198 from by (first | omega | (simp only [st_s] <;> omega) | assumption | omega | fail)) (show u9_198 < n3 from by (first | omega | (simp only [st_s] <;> omega) | assumption | omega | fail)) (show ∀ k : Int, 0 ≤ k → k < u6_198 → y_f0 (σ.2.1 72) (y_W1 (σ.1 3) (σ.2.1 71) (σ.2.1 75)) (y_f σ n1) n2 n3 (y_nn σ n1) (τ_198.2.1 85) k from by (first | exact i198_10 | (intro k a b; exact y_f0_x (i339_10 k a b) p5 (by omega) (by omega)) | fail)) (show y_f3 (σ.2.1 72) (y_W1 (σ.1 3) (σ.2.1 71) (σ.2.1 75)) (y_f σ n1) n2 n3 (y_nn σ n1) (τ_198.2.1 85) u6_198 u9_198 (u9_198 + 1) from by (first | exact y_f3_0 i198_11 (by omega) | exact y_f3_s i339_11 i339_16 (by omega) (by omega) (by omega) i339_14 w67 (fun l => i339_15 (by omega)) ww (by rw [← e_x69]; exact q71_1) | fail)) (show y_f4 (σ.2.1 72) (y_W1 (σ.1 3) (σ.2.1 71) (σ.2.1 75)) (y_f σ n1) n2 n3 (y_nn σ n1) u6_198 u9_198 (u9_198 + 1) u8_198 from by (first | exact y_f4_0 i198_12 | exact y_f4_s i339_12 i339_16 (by omega) (by omega) ww | fail)) (show u6_198 + (m_142 : Int) ≥ 62 from by (first | omega | (simp only [st_s] <;> omega) | assumption | omega | fail)) (show 1 ≤ x41 ∧ x41 ≤ 2 from by (first | omega | (simp only [st_s] <;> omega) | assumption | omega | fail)) (show u9_198 ≤ n3 - (y_nn σ n1 - (u6_198 - 1)) → y_p1 (σ.2.1 72) (y_W1 (σ.1 3) (σ.2.1 71) (σ.2.1 75)) (y_f σ n1) n2 (u6_198 - 1).toNat u9_198 from by (first | exact i339_15 | (intro l; exact (h41.2 l).mp (by assumption)) | fail)) (show y_f σ n1 u6_198 < 0 from by (first | omega | (simp only [st_s] <;> omega) | assumption | omega | fail)) (show x48 = σ.2.1 71 (-2 - y_f σ n1 u6_198) from by (first | exact i339_17 | (rw [e_x48, show x46 = -2 - y_f σ n1 u6_198 from by omega]) | fail)) (show n3 = n3 - (y_nn σ n1 - u6_198) from by (first | omega | (simp only [st_s] <;> omega) | assumption | omega | fail)) (show u9_198 < (u9_198 + 1) from by (first | omega | (simp only [st_s] <;> omega) | assumption | omega | fail)) (show u9_198 + (m_198 : Int) ≥ 61 from by (first | omega | (simp only [st_s] <;> omega) | assumption | omega | fail)) (show (u9_198 + 1) ≤ n3 + 1 from by (first | omega | (simp only [st_s] <;> omega) | assumption | omega | fail))
              ·
                refine ⟨(show 0 ≤ (((61 * u6_198) + u9_198) + 1) ∧ (((61 * u6_198) + u9_198) + 1) < 3800 from by (first | omega | (simp only [st_s] <;> omega) | assumption | omega | fail)), ?_⟩
                intro x54 r_x54 e_x54
                have b_x54 : (-2147483648) ≤ x54 ∧ x54 ≤ 2147483647 := by rw [e_x54]; exact hT.2 85 _
                have h54 := (i198_11 (u9_198 + 1) (by omega) (by omega)).1
                have e54 : 61 * u6_198 + u9_198 + 1 = 61 * u6_198 + (u9_198 + 1) := by omega
                rw [← e54, ← e_x54] at h54
                refine ⟨(show 0 ≤ u9_198 ∧ u9_198 < 64 from by (first | omega | (simp only [st_s] <;> omega) | assumption | omega | fail)), ?_⟩
                intro x56 r_x56 e_x56
                have b_x56 : 0 ≤ x56 ∧ x56 ≤ 999 := by rw [e_x56]; exact hT.2 72 _
                rw [G72] at e_x56
                refine ⟨fun c57 => ?_, fun c57 => ?_⟩
                ·
                  refine h273 _ _ _ _ _ _ _ _ _ _ _ _ ?_
                  refine ⟨(show 0 ≤ (((61 * u6_198) + u9_198) + 1) ∧ (((61 * u6_198) + u9_198) + 1) < 3800 from by (first | omega | (simp only [st_s] <;> omega) | assumption | omega | fail)), ?_⟩
                  refine ⟨(⟨by (first | omega | (simp only [st_s] <;> omega) | assumption | omega | fail), by (first | omega | (simp only [st_s] <;> omega) | assumption | omega | fail)⟩ : rg (x54 + 0)), ?_⟩
                  replace hT := mT_a (k := 85) (j := (((61 * u6_198) + u9_198) + 1)) hT (show (-2147483648 : Int) ≤ (x54 + 0) ∧ (x54 + 0) ≤ 2147483647 from by (first | omega | (simp only [st_s] <;> omega) | assumption | omega | fail))
                  refine ⟨(show 0 ≤ u9_198 ∧ u9_198 < 64 from by (first | omega | (simp only [st_s] <;> omega) | assumption | omega | fail)), ?_⟩
                  intro x79 r_x79 e_x79
                  have b_x79 : 0 ≤ x79 ∧ x79 ≤ 999 := by rw [e_x79]; exact hT.2 72 _
                  have e79 : x79 = σ.2.1 72 u9_198 := by (first | (rw [e_x79, G72]) | (rw [e_x79, e_τ_273, G72]) | (rw [e_x79, e_τ_273]; exact congrFun G72 _))
                  refine ⟨fun c80 => ?_, fun c80 => ?_⟩
                  ·
                    refine ⟨(⟨by (first | omega | (simp only [st_s] <;> omega) | assumption | omega | fail), by (first | omega | (simp only [st_s] <;> omega) | assumption | omega | fail)⟩ : rg (u8_198 + 0)), ?_⟩
                    refine ⟨(⟨by (first | omega | (simp only [st_s] <;> omega) | assumption | omega | fail), by (first | omega | (simp only [st_s] <;> omega) | assumption | omega | fail)⟩ : rg (u9_198 + 1)), ?_⟩
                    exact ih_198 _ _ _ _ _ _ _ (show (61 - (u9_198 + 1) : Int) < ((m_198 : Nat) : Int) from by ((first | omega | (simp only [st_s] <;> omega) | assumption | omega | fail))) hT (show τ_198.1 3 = σ.1 3 from by first | exact W3 | omega) (show τ_198.1 5 = σ.1 5 from by first | exact W5 | omega) (show τ_198.1 46 = σ.1 46 from by first | exact W46 | omega) G8 G10 G14 G15 G16 G71 G72 G75 (show u4_198 = y_nn σ n1 from by (first | omega | (simp only [st_s] <;> omega) | assumption | omega | fail)) (show u5_198 = σ.2.1 14 n1 + 1 from by (first | omega | (simp only [st_s] <;> omega) | assumption | omega | fail)) (show y_nn σ n1 ≤ n3 - n2 from by (first | omega | (simp only [st_s] <;> omega) | assumption | omega | fail)) (show 1 ≤ u6_198 from by (first | omega | (simp only [st_s] <;> omega) | assumption | omega | fail)) (show u6_198 ≤ y_nn σ n1 from by (first | omega | (simp only [st_s] <;> omega) | assumption | omega | fail)) (show u7_198 = σ.2.1 16 (σ.2.1 14 n1 + u6_198) from by (first | omega | (simp only [st_s] <;> omega) | assumption | omega | fail)) (show 0 ≤ (u8_198 + 0) ∧ (u8_198 + 0) ≤ 130 * ((u9_198 + 1) - n2) from by (first | omega | (simp only [st_s] <;> omega) | assumption | omega | fail)) (show n2 ≤ (u9_198 + 1) from by (first | omega | (simp only [st_s] <;> omega) | assumption | omega | fail)) (show (u9_198 + 1) ≤ n3 from by (first | omega | (simp only [st_s] <;> omega) | assumption | omega | fail)) (show ∀ k : Int, 0 ≤ k → k < u6_198 → y_f0 (σ.2.1 72) (y_W1 (σ.1 3) (σ.2.1 71) (σ.2.1 75)) (y_f σ n1) n2 n3 (y_nn σ n1) ((st (τ_198.2.1 85) (((61 * u6_198) + u9_198) + 1) (x54 + 0))) k from by (first | exact i169_10 | exact i198_10 | exact i339_10 | (rw [e_τ_273]; exact i198_10) | (intro k a b; rw [e54]; exact y_f0_x (i198_10 k a b) p5 (by omega) (by omega)) | fail)) (show y_f1 (σ.2.1 72) (y_W1 (σ.1 3) (σ.2.1 71) (σ.2.1 75)) (y_f σ n1) n2 n3 (y_nn σ n1) ((st (τ_198.2.1 85) (((61 * u6_198) + u9_198) + 1) (x54 + 0))) u6_198 (u9_198 + 1) from by (first | exact y_f1_0 (fun q a b => i169_11 q a (by omega)) | exact y_f3_e i339_11 i339_16 i339_8 (Or.inr (by omega)) | exact y_f3_e i339_11 i339_16 i339_8 (Or.inl (fun q w => by (have w1 := w.1.2.2; omega))) | exact y_f1_n i198_11 (by omega) (fun l => fun y => absurd ((h41.2 l).mpr y) (by omega)) | (rw [e54]; exact y_f1_c i198_11 (by omega) (by omega) (by (have w := fcs.1 (by omega); omega)) h41.1 (by assumption) (fun l => (h41.2 l).mp (by assumption)) (by (have w := fcs.1 (by omega); rw [← e54, ← e_x54]; omega))) | fail)) (show y_f2 (σ.2.1 72) (y_W1 (σ.1 3) (σ.2.1 71) (σ.2.1 75)) (y_f σ n1) n2 n3 (y_nn σ n1) u6_198 (u9_198 + 1) (u8_198 + 0) from by (first | (intro a p q b c d e g; exfalso; omega) | exact y_f4_e i339_12 i339_16 (Or.inr (by omega)) | exact y_f4_e i339_12 i339_16 (Or.inl (fun q w => by (have w1 := w.1.2.2; omega))) | exact y_f2_n i198_12 (fun l => fun y => absurd ((h41.2 l).mpr y) (by omega)) | exact y_f2_c i198_12 (by (have w := fcs.1 (by omega); omega)) (by omega) (by (have w := fcs.1 (by omega); omega)) | fail)) (show u6_198 + (m_142 : Int) ≥ 62 from by (first | omega | (simp only [st_s] <;> omega) | assumption | omega | fail))
                  ·
                    refine ⟨(⟨by (first | omega | (simp only [st_s] <;> omega) | assumption | omega | fail), by (first | omega | (simp only [st_s] <;> omega) | assumption | omega | fail)⟩ : rg (u8_198 + 1)), ?_⟩
                    refine ⟨(⟨by (first | omega | (simp only [st_s] <;> omega) | assumption | omega | fail), by (first | omega | (simp only [st_s] <;> omega) | assumption | omega | fail)⟩ : rg (u9_198 + 1)), ?_⟩
                    exact ih_198 _ _ _ _ _ _ _ (show (61 - (u9_198 + 1) : Int) < ((m_198 : Nat) : Int) from by ((first | omega | (simp only [st_s] <;> omega) | assumption | omega | fail))) hT (show τ_198.1 3 = σ.1 3 from by first | exact W3 | omega) (show τ_198.1 5 = σ.1 5 from by first | exact W5 | omega) (show τ_198.1 46 = σ.1 46 from by first | exact W46 | omega) G8 G10 G14 G15 G16 G71 G72 G75 (show u4_198 = y_nn σ n1 from by (first | omega | (simp only [st_s] <;> omega) | assumption | omega | fail)) (show u5_198 = σ.2.1 14 n1 + 1 from by (first | omega | (simp only [st_s] <;> omega) | assumption | omega | fail)) (show y_nn σ n1 ≤ n3 - n2 from by (first | omega | (simp only [st_s] <;> omega) | assumption | omega | fail)) (show 1 ≤ u6_198 from by (first | omega | (simp only [st_s] <;> omega) | assumption | omega | fail)) (show u6_198 ≤ y_nn σ n1 from by (first | omega | (simp only [st_s] <;> omega) | assumption | omega | fail)) (show u7_198 = σ.2.1 16 (σ.2.1 14 n1 + u6_198) from by (first | omega | (simp only [st_s] <;> omega) | assumption | omega | fail)) (show 0 ≤ (u8_198 + 1) ∧ (u8_198 + 1) ≤ 130 * ((u9_198 + 1) - n2) from by (first | omega | (simp only [st_s] <;> omega) | assumption | omega | fail)) (show n2 ≤ (u9_198 + 1) from by (first | omega | (simp only [st_s] <;> omega) | assumption | omega | fail)) (show (u9_198 + 1) ≤ n3 from by (first | omega | (simp only [st_s] <;> omega) | assumption | omega | fail)) (show ∀ k : Int, 0 ≤ k → k < u6_198 → y_f0 (σ.2.1 72) (y_W1 (σ.1 3) (σ.2.1 71) (σ.2.1 75)) (y_f σ n1) n2 n3 (y_nn σ n1) ((st (τ_198.2.1 85) (((61 * u6_198) + u9_198) + 1) (x54 + 0))) k from by (first | exact i169_10 | exact i198_10 | exact i339_10 | (rw [e_τ_273]; exact i198_10) | (intro k a b; rw [e54]; exact y_f0_x (i198_10 k a b) p5 (by omega) (by omega)) | fail)) (show y_f1 (σ.2.1 72) (y_W1 (σ.1 3) (σ.2.1 71) (σ.2.1 75)) (y_f σ n1) n2 n3 (y_nn σ n1) ((st (τ_198.2.1 85) (((61 * u6_198) + u9_198) + 1) (x54 + 0))) u6_198 (u9_198 + 1) from by (first | exact y_f1_0 (fun q a b => i169_11 q a (by omega)) | exact y_f3_e i339_11 i339_16 i339_8 (Or.inr (by omega)) | exact y_f3_e i339_11 i339_16 i339_8 (Or.inl (fun q w => by (have w1 := w.1.2.2; omega))) | exact y_f1_n i198_11 (by omega) (fun l => fun y => absurd ((h41.2 l).mpr y) (by omega)) | (rw [e54]; exact y_f1_c i198_11 (by omega) (by omega) (by (have w := fcs.1 (by omega); omega)) h41.1 (by assumption) (fun l => (h41.2 l).mp (by assumption)) (by (have w := fcs.1 (by omega); rw [← e54, ← e_x54]; omega))) | fail)) (show y_f2 (σ.2.1 72) (y_W1 (σ.1 3) (σ.2.1 71) (σ.2.1 75)) (y_f σ n1) n2 n3 (y_nn σ n1) u6_198 (u9_198 + 1) (u8_198 + 1) from by (first | (intro a p q b c d e g; exfalso; omega) | exact y_f4_e i339_12 i339_16 (Or.inr (by omega)) | exact y_f4_e i339_12 i339_16 (Or.inl (fun q w => by (have w1 := w.1.2.2; omega))) | exact y_f2_n i198_12 (fun l => fun y => absurd ((h41.2 l).mpr y) (by omega)) | exact y_f2_c i198_12 (by (have w := fcs.1 (by omega); omega)) (by omega) (by (have w := fcs.1 (by omega); omega)) | fail)) (show u6_198 + (m_142 : Int) ≥ 62 from by (first | omega | (simp only [st_s] <;> omega) | assumption | omega | fail))
                ·
                  refine h273 _ _ _ _ _ _ _ _ _ _ _ _ ?_
                  refine ⟨(show 0 ≤ (((61 * u6_198) + u9_198) + 1) ∧ (((61 * u6_198) + u9_198) + 1) < 3800 from by (first | omega | (simp only [st_s] <;> omega) | assumption | omega | fail)), ?_⟩
                  refine ⟨(⟨by (first | omega | (simp only [st_s] <;> omega) | assumption | omega | fail), by (first | omega | (simp only [st_s] <;> omega) | assumption | omega | fail)⟩ : rg (x54 + x41)), ?_⟩
                  replace hT := mT_a (k := 85) (j := (((61 * u6_198) + u9_198) + 1)) hT (show (-2147483648 : Int) ≤ (x54 + x41) ∧ (x54 + x41) ≤ 2147483647 from by (first | omega | (simp only [st_s] <;> omega) | assumption | omega | fail))
                  refine ⟨(show 0 ≤ u9_198 ∧ u9_198 < 64 from by (first | omega | (simp only [st_s] <;> omega) | assumption | omega | fail)), ?_⟩
                  intro x79 r_x79 e_x79
                  have b_x79 : 0 ≤ x79 ∧ x79 ≤ 999 := by rw [e_x79]; exact hT.2 72 _
                  have e79 : x79 = σ.2.1 72 u9_198 := by (first | (rw [e_x79, G72]) | (rw [e_x79, e_τ_273, G72]) | (rw [e_x79, e_τ_273]; exact congrFun G72 _))
                  refine ⟨fun c80 => ?_, fun c80 => ?_⟩
                  ·
                    refine ⟨(⟨by (first | omega | (simp only [st_s] <;> omega) | assumption | omega | fail), by (first | omega | (simp only [st_s] <;> omega) | assumption | omega | fail)⟩ : rg (u8_198 + 0)), ?_⟩
                    refine ⟨(⟨by (first | omega | (simp only [st_s] <;> omega) | assumption | omega | fail), by (first | omega | (simp only [st_s] <;> omega) | assumption | omega | fail)⟩ : rg (u9_198 + 1)), ?_⟩
                    exact ih_198 _ _ _ _ _ _ _ (show (61 - (u9_198 + 1) : Int) < ((m_198 : Nat) : Int) from by ((first | omega | (simp only [st_s] <;> omega) | assumption | omega | fail))) hT (show τ_198.1 3 = σ.1 3 from by first | exact W3 | omega) (show τ_198.1 5 = σ.1 5 from by first | exact W5 | omega) (show τ_198.1 46 = σ.1 46 from by first | exact W46 | omega) G8 G10 G14 G15 G16 G71 G72 G75 (show u4_198 = y_nn σ n1 from by (first | omega | (simp only [st_s] <;> omega) | assumption | omega | fail)) (show u5_198 = σ.2.1 14 n1 + 1 from by (first | omega | (simp only [st_s] <;> omega) | assumption | omega | fail)) (show y_nn σ n1 ≤ n3 - n2 from by (first | omega | (simp only [st_s] <;> omega) | assumption | omega | fail)) (show 1 ≤ u6_198 from by (first | omega | (simp only [st_s] <;> omega) | assumption | omega | fail)) (show u6_198 ≤ y_nn σ n1 from by (first | omega | (simp only [st_s] <;> omega) | assumption | omega | fail)) (show u7_198 = σ.2.1 16 (σ.2.1 14 n1 + u6_198) from by (first | omega | (simp only [st_s] <;> omega) | assumption | omega | fail)) (show 0 ≤ (u8_198 + 0) ∧ (u8_198 + 0) ≤ 130 * ((u9_198 + 1) - n2) from by (first | omega | (simp only [st_s] <;> omega) | assumption | omega | fail)) (show n2 ≤ (u9_198 + 1) from by (first | omega | (simp only [st_s] <;> omega) | assumption | omega | fail)) (show (u9_198 + 1) ≤ n3 from by (first | omega | (simp only [st_s] <;> omega) | assumption | omega | fail)) (show ∀ k : Int, 0 ≤ k → k < u6_198 → y_f0 (σ.2.1 72) (y_W1 (σ.1 3) (σ.2.1 71) (σ.2.1 75)) (y_f σ n1) n2 n3 (y_nn σ n1) ((st (τ_198.2.1 85) (((61 * u6_198) + u9_198) + 1) (x54 + x41))) k from by (first | exact i169_10 | exact i198_10 | exact i339_10 | (rw [e_τ_273]; exact i198_10) | (intro k a b; rw [e54]; exact y_f0_x (i198_10 k a b) p5 (by omega) (by omega)) | fail)) (show y_f1 (σ.2.1 72) (y_W1 (σ.1 3) (σ.2.1 71) (σ.2.1 75)) (y_f σ n1) n2 n3 (y_nn σ n1) ((st (τ_198.2.1 85) (((61 * u6_198) + u9_198) + 1) (x54 + x41))) u6_198 (u9_198 + 1) from by (first | exact y_f1_0 (fun q a b => i169_11 q a (by omega)) | exact y_f3_e i339_11 i339_16 i339_8 (Or.inr (by omega)) | exact y_f3_e i339_11 i339_16 i339_8 (Or.inl (fun q w => by (have w1 := w.1.2.2; omega))) | exact y_f1_n i198_11 (by omega) (fun l => fun y => absurd ((h41.2 l).mpr y) (by omega)) | (rw [e54]; exact y_f1_c i198_11 (by omega) (by omega) (by (have w := fcs.1 (by omega); omega)) h41.1 (by assumption) (fun l => (h41.2 l).mp (by assumption)) (by (have w := fcs.1 (by omega); rw [← e54, ← e_x54]; omega))) | fail)) (show y_f2 (σ.2.1 72) (y_W1 (σ.1 3) (σ.2.1 71) (σ.2.1 75)) (y_f σ n1) n2 n3 (y_nn σ n1) u6_198 (u9_198 + 1) (u8_198 + 0) from by (first | (intro a p q b c d e g; exfalso; omega) | exact y_f4_e i339_12 i339_16 (Or.inr (by omega)) | exact y_f4_e i339_12 i339_16 (Or.inl (fun q w => by (have w1 := w.1.2.2; omega))) | exact y_f2_n i198_12 (fun l => fun y => absurd ((h41.2 l).mpr y) (by omega)) | exact y_f2_c i198_12 (by (have w := fcs.1 (by omega); omega)) (by omega) (by (have w := fcs.1 (by omega); omega)) | fail)) (show u6_198 + (m_142 : Int) ≥ 62 from by (first | omega | (simp only [st_s] <;> omega) | assumption | omega | fail))
                  ·
                    refine ⟨(⟨by (first | omega | (simp only [st_s] <;> omega) | assumption | omega | fail), by (first | omega | (simp only [st_s] <;> omega) | assumption | omega | fail)⟩ : rg (u8_198 + 1)), ?_⟩
                    refine ⟨(⟨by (first | omega | (simp only [st_s] <;> omega) | assumption | omega | fail), by (first | omega | (simp only [st_s] <;> omega) | assumption | omega | fail)⟩ : rg (u9_198 + 1)), ?_⟩
                    exact ih_198 _ _ _ _ _ _ _ (show (61 - (u9_198 + 1) : Int) < ((m_198 : Nat) : Int) from by ((first | omega | (simp only [st_s] <;> omega) | assumption | omega | fail))) hT (show τ_198.1 3 = σ.1 3 from by first | exact W3 | omega) (show τ_198.1 5 = σ.1 5 from by first | exact W5 | omega) (show τ_198.1 46 = σ.1 46 from by first | exact W46 | omega) G8 G10 G14 G15 G16 G71 G72 G75 (show u4_198 = y_nn σ n1 from by (first | omega | (simp only [st_s] <;> omega) | assumption | omega | fail)) (show u5_198 = σ.2.1 14 n1 + 1 from by (first | omega | (simp only [st_s] <;> omega) | assumption | omega | fail)) (show y_nn σ n1 ≤ n3 - n2 from by (first | omega | (simp only [st_s] <;> omega) | assumption | omega | fail)) (show 1 ≤ u6_198 from by (first | omega | (simp only [st_s] <;> omega) | assumption | omega | fail)) (show u6_198 ≤ y_nn σ n1 from by (first | omega | (simp only [st_s] <;> omega) | assumption | omega | fail)) (show u7_198 = σ.2.1 16 (σ.2.1 14 n1 + u6_198) from by (first | omega | (simp only [st_s] <;> omega) | assumption | omega | fail)) (show 0 ≤ (u8_198 + 1) ∧ (u8_198 + 1) ≤ 130 * ((u9_198 + 1) - n2) from by (first | omega | (simp only [st_s] <;> omega) | assumption | omega | fail)) (show n2 ≤ (u9_198 + 1) from by (first | omega | (simp only [st_s] <;> omega) | assumption | omega | fail)) (show (u9_198 + 1) ≤ n3 from by (first | omega | (simp only [st_s] <;> omega) | assumption | omega | fail)) (show ∀ k : Int, 0 ≤ k → k < u6_198 → y_f0 (σ.2.1 72) (y_W1 (σ.1 3) (σ.2.1 71) (σ.2.1 75)) (y_f σ n1) n2 n3 (y_nn σ n1) ((st (τ_198.2.1 85) (((61 * u6_198) + u9_198) + 1) (x54 + x41))) k from by (first | exact i169_10 | exact i198_10 | exact i339_10 | (rw [e_τ_273]; exact i198_10) | (intro k a b; rw [e54]; exact y_f0_x (i198_10 k a b) p5 (by omega) (by omega)) | fail)) (show y_f1 (σ.2.1 72) (y_W1 (σ.1 3) (σ.2.1 71) (σ.2.1 75)) (y_f σ n1) n2 n3 (y_nn σ n1) ((st (τ_198.2.1 85) (((61 * u6_198) + u9_198) + 1) (x54 + x41))) u6_198 (u9_198 + 1) from by (first | exact y_f1_0 (fun q a b => i169_11 q a (by omega)) | exact y_f3_e i339_11 i339_16 i339_8 (Or.inr (by omega)) | exact y_f3_e i339_11 i339_16 i339_8 (Or.inl (fun q w => by (have w1 := w.1.2.2; omega))) | exact y_f1_n i198_11 (by omega) (fun l => fun y => absurd ((h41.2 l).mpr y) (by omega)) | (rw [e54]; exact y_f1_c i198_11 (by omega) (by omega) (by (have w := fcs.1 (by omega); omega)) h41.1 (by assumption) (fun l => (h41.2 l).mp (by assumption)) (by (have w := fcs.1 (by omega); rw [← e54, ← e_x54]; omega))) | fail)) (show y_f2 (σ.2.1 72) (y_W1 (σ.1 3) (σ.2.1 71) (σ.2.1 75)) (y_f σ n1) n2 n3 (y_nn σ n1) u6_198 (u9_198 + 1) (u8_198 + 1) from by (first | (intro a p q b c d e g; exfalso; omega) | exact y_f4_e i339_12 i339_16 (Or.inr (by omega)) | exact y_f4_e i339_12 i339_16 (Or.inl (fun q w => by (have w1 := w.1.2.2; omega))) | exact y_f2_n i198_12 (fun l => fun y => absurd ((h41.2 l).mpr y) (by omega)) | exact y_f2_c i198_12 (by (have w := fcs.1 (by omega); omega)) (by omega) (by (have w := fcs.1 (by omega); omega)) | fail)) (show u6_198 + (m_142 : Int) ≥ 62 from by (first | omega | (simp only [st_s] <;> omega) | assumption | omega | fail))
            ·
              refine ⟨(⟨by (first | omega | (simp only [st_s] <;> omega) | assumption | omega | fail), by (first | omega | (simp only [st_s] <;> omega) | assumption | omega | fail)⟩ : rg (u9_198 + 1)), ?_⟩
              exact ih_198 _ _ _ _ _ _ _ (show (61 - (u9_198 + 1) : Int) < ((m_198 : Nat) : Int) from by ((first | omega | (simp only [st_s] <;> omega) | assumption | omega | fail))) hT (show τ_198.1 3 = σ.1 3 from by first | exact W3 | omega) (show τ_198.1 5 = σ.1 5 from by first | exact W5 | omega) (show τ_198.1 46 = σ.1 46 from by first | exact W46 | omega) G8 G10 G14 G15 G16 G71 G72 G75 (show u4_198 = y_nn σ n1 from by (first | omega | (simp only [st_s] <;> omega) | assumption | omega | fail)) (show u5_198 = σ.2.1 14 n1 + 1 from by (first | omega | (simp only [st_s] <;> omega) | assumption | omega | fail)) (show y_nn σ n1 ≤ n3 - n2 from by (first | omega | (simp only [st_s] <;> omega) | assumption | omega | fail)) (show 1 ≤ u6_198 from by (first | omega | (simp only [st_s] <;> omega) | assumption | omega | fail)) (show u6_198 ≤ y_nn σ n1 from by (first | omega | (simp only [st_s] <;> omega) | assumption | omega | fail)) (show u7_198 = σ.2.1 16 (σ.2.1 14 n1 + u6_198) from by (first | omega | (simp only [st_s] <;> omega) | assumption | omega | fail)) (show 0 ≤ u8_198 ∧ u8_198 ≤ 130 * ((u9_198 + 1) - n2) from by (first | omega | (simp only [st_s] <;> omega) | assumption | omega | fail)) (show n2 ≤ (u9_198 + 1) from by (first | omega | (simp only [st_s] <;> omega) | assumption | omega | fail)) (show (u9_198 + 1) ≤ n3 from by (first | omega | (simp only [st_s] <;> omega) | assumption | omega | fail)) (show ∀ k : Int, 0 ≤ k → k < u6_198 → y_f0 (σ.2.1 72) (y_W1 (σ.1 3) (σ.2.1 71) (σ.2.1 75)) (y_f σ n1) n2 n3 (y_nn σ n1) (τ_198.2.1 85) k from by (first | exact i169_10 | exact i198_10 | exact i339_10 | (rw [e_τ_273]; exact i198_10) | (intro k a b; rw [e54]; exact y_f0_x (i198_10 k a b) p5 (by omega) (by omega)) | fail)) (show y_f1 (σ.2.1 72) (y_W1 (σ.1 3) (σ.2.1 71) (σ.2.1 75)) (y_f σ n1) n2 n3 (y_nn σ n1) (τ_198.2.1 85) u6_198 (u9_198 + 1) from by (first | exact y_f1_0 (fun q a b => i169_11 q a (by omega)) | exact y_f3_e i339_11 i339_16 i339_8 (Or.inr (by omega)) | exact y_f3_e i339_11 i339_16 i339_8 (Or.inl (fun q w => by (have w1 := w.1.2.2; omega))) | exact y_f1_n i198_11 (by omega) (fun l => fun y => absurd ((h41.2 l).mpr y) (by omega)) | (rw [e54]; exact y_f1_c i198_11 (by omega) (by omega) (by (have w := fcs.1 (by omega); omega)) h41.1 (by assumption) (fun l => (h41.2 l).mp (by assumption)) (by (have w := fcs.1 (by omega); rw [← e54, ← e_x54]; omega))) | fail)) (show y_f2 (σ.2.1 72) (y_W1 (σ.1 3) (σ.2.1 71) (σ.2.1 75)) (y_f σ n1) n2 n3 (y_nn σ n1) u6_198 (u9_198 + 1) u8_198 from by (first | (intro a p q b c d e g; exfalso; omega) | exact y_f4_e i339_12 i339_16 (Or.inr (by omega)) | exact y_f4_e i339_12 i339_16 (Or.inl (fun q w => by (have w1 := w.1.2.2; omega))) | exact y_f2_n i198_12 (fun l => fun y => absurd ((h41.2 l).mpr y) (by omega)) | exact y_f2_c i198_12 (by (have w := fcs.1 (by omega); omega)) (by omega) (by (have w := fcs.1 (by omega); omega)) | fail)) (show u6_198 + (m_142 : Int) ≥ 62 from by (first | omega | (simp only [st_s] <;> omega) | assumption | omega | fail))
      have l_169 : ∀ (m_169 : Nat) (u4_169 : Int) (u5_169 : Int) (u6_169 : Int) (u7_169 : Int) (u8_169 : Int) (u9_169 : Int) (τ_169 : S0), 61 - u9_169 < (m_169 : Int) → (m_T τ_169) → (τ_169.1 3 = σ.1 3) → (τ_169.1 5 = σ.1 5) → (τ_169.1 46 = σ.1 46) → (τ_169.2.1 8 = σ.2.1 8) → (τ_169.2.1 10 = σ.2.1 10) → (τ_169.2.1 14 = σ.2.1 14) → (τ_169.2.1 15 = σ.2.1 15) → (τ_169.2.1 16 = σ.2.1 16) → (τ_169.2.1 71 = σ.2.1 71) → (τ_169.2.1 72 = σ.2.1 72) → (τ_169.2.1 75 = σ.2.1 75) → (u4_169 = y_nn σ n1) → (u5_169 = σ.2.1 14 n1 + 1) → (y_nn σ n1 ≤ n3 - n2) → (1 ≤ u6_169) → (u6_169 ≤ y_nn σ n1) → (u7_169 = σ.2.1 16 (σ.2.1 14 n1 + u6_169)) → (u8_169 = 0) → (n2 ≤ u9_169) → (u9_169 ≤ n3 + 1) → (∀ k : Int, 0 ≤ k → k < u6_169 → y_f0 (σ.2.1 72) (y_W1 (σ.1 3) (σ.2.1 71) (σ.2.1 75)) (y_f σ n1) n2 n3 (y_nn σ n1) (τ_169.2.1 85) k) → (∀ q : Int, n2 ≤ q → q < u9_169 → τ_169.2.1 85 (61 * u6_169 + q) = 0) → (u6_169 + (m_142 : Int) ≥ 62) → P169 n2 n3 u4_169 u5_169 u6_169 u7_169 u8_169 u9_169 τ_169 := by
        intro m_169
        induction m_169 with
        | zero =>
          intro u4_169 u5_169 u6_169 u7_169 u8_169 u9_169 τ_169 hm hT W3 W5 W46 G8 G10 G14 G15 G16 G71 G72 G75 i169_1 i169_2 i169_3 i169_4 i169_5 i169_6 i169_7 i169_8 i169_9 i169_10 i169_11 i169_12
          have A8 : ∀ j, 0 ≤ τ_169.2.1 8 j ∧ τ_169.2.1 8 j ≤ 1 := fun j => hT.2 8 j
          have A10 : ∀ j, (-1) ≤ τ_169.2.1 10 j ∧ τ_169.2.1 10 j ≤ 999 := fun j => hT.2 10 j
          have A14 : ∀ j, 0 ≤ τ_169.2.1 14 j ∧ τ_169.2.1 14 j ≤ 30000 := fun j => hT.2 14 j
          have A15 : ∀ j, 0 ≤ τ_169.2.1 15 j ∧ τ_169.2.1 15 j ≤ 300 := fun j => hT.2 15 j
          have A16 : ∀ j, 0 ≤ τ_169.2.1 16 j ∧ τ_169.2.1 16 j ≤ 999 := fun j => hT.2 16 j
          have A71 : ∀ j, (-1) ≤ τ_169.2.1 71 j ∧ τ_169.2.1 71 j ≤ 99 := fun j => hT.2 71 j
          have A72 : ∀ j, 0 ≤ τ_169.2.1 72 j ∧ τ_169.2.1 72 j ≤ 999 := fun j => hT.2 72 j
          have A75 : ∀ j, 0 ≤ τ_169.2.1 75 j ∧ τ_169.2.1 75 j ≤ 3 := fun j => hT.2 75 j
          have A85 : ∀ j, (-2147483648) ≤ τ_169.2.1 85 j ∧ τ_169.2.1 85 j ≤ 2147483647 := fun j => hT.2 85 j
          have v3 : 0 ≤ τ_169.1 3 ∧ τ_169.1 3 ≤ 1000 := hT.1 3
          have v5 : 0 ≤ τ_169.1 5 ∧ τ_169.1 5 ≤ 1500 := hT.1 5
          have v46 : 0 ≤ τ_169.1 46 ∧ τ_169.1 46 ≤ 100 := hT.1 46
          exfalso; (first | omega | (simp only [st_s] <;> omega) | assumption | omega | fail)
        | succ m_169 ih_169 =>
          intro u4_169 u5_169 u6_169 u7_169 u8_169 u9_169 τ_169 hm_169 hT W3 W5 W46 G8 G10 G14 G15 G16 G71 G72 G75 i169_1 i169_2 i169_3 i169_4 i169_5 i169_6 i169_7 i169_8 i169_9 i169_10 i169_11 i169_12
          have A8 : ∀ j, 0 ≤ τ_169.2.1 8 j ∧ τ_169.2.1 8 j ≤ 1 := fun j => hT.2 8 j
          have A10 : ∀ j, (-1) ≤ τ_169.2.1 10 j ∧ τ_169.2.1 10 j ≤ 999 := fun j => hT.2 10 j
          have A14 : ∀ j, 0 ≤ τ_169.2.1 14 j ∧ τ_169.2.1 14 j ≤ 30000 := fun j => hT.2 14 j
          have A15 : ∀ j, 0 ≤ τ_169.2.1 15 j ∧ τ_169.2.1 15 j ≤ 300 := fun j => hT.2 15 j
          have A16 : ∀ j, 0 ≤ τ_169.2.1 16 j ∧ τ_169.2.1 16 j ≤ 999 := fun j => hT.2 16 j
          have A71 : ∀ j, (-1) ≤ τ_169.2.1 71 j ∧ τ_169.2.1 71 j ≤ 99 := fun j => hT.2 71 j
          have A72 : ∀ j, 0 ≤ τ_169.2.1 72 j ∧ τ_169.2.1 72 j ≤ 999 := fun j => hT.2 72 j
          have A75 : ∀ j, 0 ≤ τ_169.2.1 75 j ∧ τ_169.2.1 75 j ≤ 3 := fun j => hT.2 75 j
          have A85 : ∀ j, (-2147483648) ≤ τ_169.2.1 85 j ∧ τ_169.2.1 85 j ≤ 2147483647 := fun j => hT.2 85 j
          have v3 : 0 ≤ τ_169.1 3 ∧ τ_169.1 3 ≤ 1000 := hT.1 3
          have v5 : 0 ≤ τ_169.1 5 ∧ τ_169.1 5 ≤ 1500 := hT.1 5
          have v46 : 0 ≤ τ_169.1 46 ∧ τ_169.1 46 ≤ 100 := hT.1 46
          refine h169 n2 n3 u4_169 u5_169 u6_169 u7_169 u8_169 u9_169 τ_169 ?_
          refine ⟨fun c34 => ?_, fun c34 => ?_⟩
          ·
            exact l_198 ((61 - n2 : Int).toNat + 1) _ _ _ _ _ _ _ (show (61 - n2 : Int) < (((61 - n2 : Int).toNat + 1 : Nat) : Int) from by ((first | omega | (simp only [st_s] <;> omega) | assumption | omega | fail))) hT (show τ_169.1 3 = σ.1 3 from by first | exact W3 | omega) (show τ_169.1 5 = σ.1 5 from by first | exact W5 | omega) (show τ_169.1 46 = σ.1 46 from by first | exact W46 | omega) G8 G10 G14 G15 G16 G71 G72 G75 (show u4_169 = y_nn σ n1 from by (first | omega | (simp only [st_s] <;> omega) | assumption | omega | fail)) (show u5_169 = σ.2.1 14 n1 + 1 from by (first | omega | (simp only [st_s] <;> omega) | assumption | omega | fail)) (show y_nn σ n1 ≤ n3 - n2 from by (first | omega | (simp only [st_s] <;> omega) | assumption | omega | fail)) (show 1 ≤ u6_169 from by (first | omega | (simp only [st_s] <;> omega) | assumption | omega | fail)) (show u6_169 ≤ y_nn σ n1 from by (first | omega | (simp only [st_s] <;> omega) | assumption | omega | fail)) (show u7_169 = σ.2.1 16 (σ.2.1 14 n1 + u6_169) from by (first | omega | (simp only [st_s] <;> omega) | assumption | omega | fail)) (show 0 ≤ u8_169 ∧ u8_169 ≤ 130 * (n2 - n2) from by (first | omega | (simp only [st_s] <;> omega) | assumption | omega | fail)) (show n2 ≤ n2 from by (first | omega | (simp only [st_s] <;> omega) | assumption | omega | fail)) (show n2 ≤ n3 from by (first | omega | (simp only [st_s] <;> omega) | assumption | omega | fail)) (show ∀ k : Int, 0 ≤ k → k < u6_169 → y_f0 (σ.2.1 72) (y_W1 (σ.1 3) (σ.2.1 71) (σ.2.1 75)) (y_f σ n1) n2 n3 (y_nn σ n1) (τ_169.2.1 85) k from by (first | exact i169_10 | exact i198_10 | exact i339_10 | (rw [e_τ_273]; exact i198_10) | (intro k a b; rw [e54]; exact y_f0_x (i198_10 k a b) p5 (by omega) (by omega)) | fail)) (show y_f1 (σ.2.1 72) (y_W1 (σ.1 3) (σ.2.1 71) (σ.2.1 75)) (y_f σ n1) n2 n3 (y_nn σ n1) (τ_169.2.1 85) u6_169 n2 from by (first | exact y_f1_0 (fun q a b => i169_11 q a (by omega)) | exact y_f3_e i339_11 i339_16 i339_8 (Or.inr (by omega)) | exact y_f3_e i339_11 i339_16 i339_8 (Or.inl (fun q w => by (have w1 := w.1.2.2; omega))) | exact y_f1_n i198_11 (by omega) (fun l => fun y => absurd ((h41.2 l).mpr y) (by omega)) | (rw [e54]; exact y_f1_c i198_11 (by omega) (by omega) (by (have w := fcs.1 (by omega); omega)) h41.1 (by assumption) (fun l => (h41.2 l).mp (by assumption)) (by (have w := fcs.1 (by omega); rw [← e54, ← e_x54]; omega))) | fail)) (show y_f2 (σ.2.1 72) (y_W1 (σ.1 3) (σ.2.1 71) (σ.2.1 75)) (y_f σ n1) n2 n3 (y_nn σ n1) u6_169 n2 u8_169 from by (first | (intro a p q b c d e g; exfalso; omega) | exact y_f4_e i339_12 i339_16 (Or.inr (by omega)) | exact y_f4_e i339_12 i339_16 (Or.inl (fun q w => by (have w1 := w.1.2.2; omega))) | exact y_f2_n i198_12 (fun l => fun y => absurd ((h41.2 l).mpr y) (by omega)) | exact y_f2_c i198_12 (by (have w := fcs.1 (by omega); omega)) (by omega) (by (have w := fcs.1 (by omega); omega)) | fail)) (show u6_169 + (m_142 : Int) ≥ 62 from by (first | omega | (simp only [st_s] <;> omega) | assumption | omega | fail))
          ·
            refine ⟨(show 0 ≤ ((61 * u6_169) + u9_169) ∧ ((61 * u6_169) + u9_169) < 3800 from by (first | omega | (simp only [st_s] <;> omega) | assumption | omega | fail)), ?_⟩
            replace hT := mT_a (k := 85) (j := ((61 * u6_169) + u9_169)) hT (show (-2147483648 : Int) ≤ 0 ∧ 0 ≤ 2147483647 from by (first | omega | (simp only [st_s] <;> omega) | assumption | omega | fail))
            refine ⟨(⟨by (first | omega | (simp only [st_s] <;> omega) | assumption | omega | fail), by (first | omega | (simp only [st_s] <;> omega) | assumption | omega | fail)⟩ : rg (u9_169 + 1)), ?_⟩
            exact ih_169 _ _ _ _ _ _ _ (show (61 - (u9_169 + 1) : Int) < ((m_169 : Nat) : Int) from by ((first | omega | (simp only [st_s] <;> omega) | assumption | omega | fail))) hT (show τ_169.1 3 = σ.1 3 from by first | exact W3 | omega) (show τ_169.1 5 = σ.1 5 from by first | exact W5 | omega) (show τ_169.1 46 = σ.1 46 from by first | exact W46 | omega) G8 G10 G14 G15 G16 G71 G72 G75 (show u4_169 = y_nn σ n1 from by (first | omega | (simp only [st_s] <;> omega) | assumption | omega | fail)) (show u5_169 = σ.2.1 14 n1 + 1 from by (first | omega | (simp only [st_s] <;> omega) | assumption | omega | fail)) (show y_nn σ n1 ≤ n3 - n2 from by (first | omega | (simp only [st_s] <;> omega) | assumption | omega | fail)) (show 1 ≤ u6_169 from by (first | omega | (simp only [st_s] <;> omega) | assumption | omega | fail)) (show u6_169 ≤ y_nn σ n1 from by (first | omega | (simp only [st_s] <;> omega) | assumption | omega | fail)) (show u7_169 = σ.2.1 16 (σ.2.1 14 n1 + u6_169) from by (first | omega | (simp only [st_s] <;> omega) | assumption | omega | fail)) (show u8_169 = 0 from by (first | omega | (simp only [st_s] <;> omega) | assumption | omega | fail)) (show n2 ≤ (u9_169 + 1) from by (first | omega | (simp only [st_s] <;> omega) | assumption | omega | fail)) (show (u9_169 + 1) ≤ n3 + 1 from by (first | omega | (simp only [st_s] <;> omega) | assumption | omega | fail)) (show ∀ k : Int, 0 ≤ k → k < u6_169 → y_f0 (σ.2.1 72) (y_W1 (σ.1 3) (σ.2.1 71) (σ.2.1 75)) (y_f σ n1) n2 n3 (y_nn σ n1) ((st (τ_169.2.1 85) ((61 * u6_169) + u9_169) 0)) k from by (first | exact i142_6 | (intro k a b; exact y_f0_x (i169_10 k a b) p5 (by omega) (by omega)) | fail)) (show ∀ q : Int, n2 ≤ q → q < (u9_169 + 1) → (st (τ_169.2.1 85) ((61 * u6_169) + u9_169) 0) (61 * u6_169 + q) = 0 from by (first | (intro q a b; exfalso; omega) | (intro q a b; rcases (by omega : q < u9_169 ∨ q = u9_169) with z | z; (rw [st_n _ _ (by omega)]; exact i169_11 q a z); (rw [z, st_s])) | fail)) (show u6_169 + (m_142 : Int) ≥ 62 from by (first | omega | (simp only [st_s] <;> omega) | assumption | omega | fail))
      refine h142 n2 n3 u4_142 u5_142 u6_142 τ_142 ?_
      refine ⟨fun c27 => ?_, fun c27 => ?_⟩
      ·
        refine ⟨(show 0 ≤ ((61 * u4_142) + n3) ∧ ((61 * u4_142) + n3) < 3800 from by (first | omega | (simp only [st_s] <;> omega) | assumption | omega | fail)), ?_⟩
        intro x29 r_x29 e_x29
        have b_x29 : (-2147483648) ≤ x29 ∧ x29 ≤ 2147483647 := by rw [e_x29]; exact hT.2 85 _
        exact ⟨hT, (show y_p1 (σ.2.1 72) (y_W1 (σ.1 3) (σ.2.1 71) (σ.2.1 75)) (y_f σ n1) n2 (y_nn σ n1).toNat n3 → ∀ k : Int, 0 ≤ k → k ≤ y_nn σ n1 → y_f0 (σ.2.1 72) (y_W1 (σ.1 3) (σ.2.1 71) (σ.2.1 75)) (y_f σ n1) n2 n3 (y_nn σ n1) (τ_142.2.1 85) k from by (first | (intro y k a b; exact i142_6 k a (by omega)) | (intro y; exact absurd y (by (have w := i198_12; rw [show u9_198 = n3 from by omega] at w; exact y_f2_z w (by omega) (by omega) (by omega)))) | (intro y; have l := y_p1_l _ _ y; exfalso; omega) | (intro y; exfalso; have e1 := f8.1 (by omega); have z := y_p1_a1 y (by omega) (by omega); omega) | (intro y; exfalso; have e1 := f17.1 (by omega); have z := y_p1_z y (by omega) (by omega); omega) | fail))⟩
      ·
        refine ⟨(show 0 ≤ ((u5_142 + u6_142) - 1) ∧ ((u5_142 + u6_142) - 1) < 30400 from by (first | omega | (simp only [st_s] <;> omega) | assumption | omega | fail)), ?_⟩
        intro x31 r_x31 e_x31
        have b_x31 : 0 ≤ x31 ∧ x31 ≤ 999 := by rw [e_x31]; exact hT.2 16 _
        rw [G16] at e_x31
        have f31 : x31 = σ.2.1 16 (σ.2.1 14 n1 + u6_142) := by (rw [e_x31]; exact congrArg (σ.2.1 16) (by omega))
        exact l_169 ((61 - n2 : Int).toNat + 1) _ _ _ _ _ _ _ (show (61 - n2 : Int) < (((61 - n2 : Int).toNat + 1 : Nat) : Int) from by ((first | omega | (simp only [st_s] <;> omega) | assumption | omega | fail))) hT (show τ_142.1 3 = σ.1 3 from by first | exact W3 | omega) (show τ_142.1 5 = σ.1 5 from by first | exact W5 | omega) (show τ_142.1 46 = σ.1 46 from by first | exact W46 | omega) G8 G10 G14 G15 G16 G71 G72 G75 (show u4_142 = y_nn σ n1 from by (first | omega | (simp only [st_s] <;> omega) | assumption | omega | fail)) (show u5_142 = σ.2.1 14 n1 + 1 from by (first | omega | (simp only [st_s] <;> omega) | assumption | omega | fail)) (show y_nn σ n1 ≤ n3 - n2 from by (first | omega | (simp only [st_s] <;> omega) | assumption | omega | fail)) (show 1 ≤ u6_142 from by (first | omega | (simp only [st_s] <;> omega) | assumption | omega | fail)) (show u6_142 ≤ y_nn σ n1 from by (first | omega | (simp only [st_s] <;> omega) | assumption | omega | fail)) (show x31 = σ.2.1 16 (σ.2.1 14 n1 + u6_142) from by (first | omega | (simp only [st_s] <;> omega) | assumption | omega | fail)) (show 0 = 0 from by (first | omega | (simp only [st_s] <;> omega) | assumption | omega | fail)) (show n2 ≤ n2 from by (first | omega | (simp only [st_s] <;> omega) | assumption | omega | fail)) (show n2 ≤ n3 + 1 from by (first | omega | (simp only [st_s] <;> omega) | assumption | omega | fail)) (show ∀ k : Int, 0 ≤ k → k < u6_142 → y_f0 (σ.2.1 72) (y_W1 (σ.1 3) (σ.2.1 71) (σ.2.1 75)) (y_f σ n1) n2 n3 (y_nn σ n1) (τ_142.2.1 85) k from by (first | exact i142_6 | (intro k a b; exact y_f0_x (i169_10 k a b) p5 (by omega) (by omega)) | fail)) (show ∀ q : Int, n2 ≤ q → q < n2 → τ_142.2.1 85 (61 * u6_142 + q) = 0 from by (first | (intro q a b; exfalso; omega) | (intro q a b; rcases (by omega : q < u9_169 ∨ q = u9_169) with z | z; (rw [st_n _ _ (by omega)]; exact i169_11 q a z); (rw [z, st_s])) | fail)) (show u6_142 + (m_142 : Int) ≥ 62 from by (first | omega | (simp only [st_s] <;> omega) | assumption | omega | fail))
  have l_109 : ∀ (m_109 : Nat) (u4_109 : Int) (u5_109 : Int) (u6_109 : Int) (τ_109 : S0), 61 - u6_109 < (m_109 : Int) → (m_T τ_109) → (τ_109.1 3 = σ.1 3) → (τ_109.1 5 = σ.1 5) → (τ_109.1 46 = σ.1 46) → (τ_109.2.1 8 = σ.2.1 8) → (τ_109.2.1 10 = σ.2.1 10) → (τ_109.2.1 14 = σ.2.1 14) → (τ_109.2.1 15 = σ.2.1 15) → (τ_109.2.1 16 = σ.2.1 16) → (τ_109.2.1 71 = σ.2.1 71) → (τ_109.2.1 72 = σ.2.1 72) → (τ_109.2.1 75 = σ.2.1 75) → (u4_109 = y_nn σ n1) → (u5_109 = σ.2.1 14 n1 + 1) → (y_nn σ n1 ≤ n3 - n2) → (n2 ≤ u6_109) → (u6_109 ≤ n3 + 1) → (∀ q : Int, n2 ≤ q → q < u6_109 → (q = n2 ∧ τ_109.2.1 85 q = 1) ∨ (¬ q = n2 ∧ τ_109.2.1 85 q = 0)) → P109 n2 n3 u4_109 u5_109 u6_109 τ_109 := by
    intro m_109
    induction m_109 with
    | zero =>
      intro u4_109 u5_109 u6_109 τ_109 hm hT W3 W5 W46 G8 G10 G14 G15 G16 G71 G72 G75 i109_1 i109_2 i109_3 i109_4 i109_5 i109_6
      have A8 : ∀ j, 0 ≤ τ_109.2.1 8 j ∧ τ_109.2.1 8 j ≤ 1 := fun j => hT.2 8 j
      have A10 : ∀ j, (-1) ≤ τ_109.2.1 10 j ∧ τ_109.2.1 10 j ≤ 999 := fun j => hT.2 10 j
      have A14 : ∀ j, 0 ≤ τ_109.2.1 14 j ∧ τ_109.2.1 14 j ≤ 30000 := fun j => hT.2 14 j
      have A15 : ∀ j, 0 ≤ τ_109.2.1 15 j ∧ τ_109.2.1 15 j ≤ 300 := fun j => hT.2 15 j
      have A16 : ∀ j, 0 ≤ τ_109.2.1 16 j ∧ τ_109.2.1 16 j ≤ 999 := fun j => hT.2 16 j
      have A71 : ∀ j, (-1) ≤ τ_109.2.1 71 j ∧ τ_109.2.1 71 j ≤ 99 := fun j => hT.2 71 j
      have A72 : ∀ j, 0 ≤ τ_109.2.1 72 j ∧ τ_109.2.1 72 j ≤ 999 := fun j => hT.2 72 j
      have A75 : ∀ j, 0 ≤ τ_109.2.1 75 j ∧ τ_109.2.1 75 j ≤ 3 := fun j => hT.2 75 j
      have A85 : ∀ j, (-2147483648) ≤ τ_109.2.1 85 j ∧ τ_109.2.1 85 j ≤ 2147483647 := fun j => hT.2 85 j
      have v3 : 0 ≤ τ_109.1 3 ∧ τ_109.1 3 ≤ 1000 := hT.1 3
      have v5 : 0 ≤ τ_109.1 5 ∧ τ_109.1 5 ≤ 1500 := hT.1 5
      have v46 : 0 ≤ τ_109.1 46 ∧ τ_109.1 46 ≤ 100 := hT.1 46
      exfalso; (first | omega | (simp only [st_s] <;> omega) | assumption | omega | fail)
    | succ m_109 ih_109 =>
      intro u4_109 u5_109 u6_109 τ_109 hm_109 hT W3 W5 W46 G8 G10 G14 G15 G16 G71 G72 G75 i109_1 i109_2 i109_3 i109_4 i109_5 i109_6
      have A8 : ∀ j, 0 ≤ τ_109.2.1 8 j ∧ τ_109.2.1 8 j ≤ 1 := fun j => hT.2 8 j
      have A10 : ∀ j, (-1) ≤ τ_109.2.1 10 j ∧ τ_109.2.1 10 j ≤ 999 := fun j => hT.2 10 j
      have A14 : ∀ j, 0 ≤ τ_109.2.1 14 j ∧ τ_109.2.1 14 j ≤ 30000 := fun j => hT.2 14 j
      have A15 : ∀ j, 0 ≤ τ_109.2.1 15 j ∧ τ_109.2.1 15 j ≤ 300 := fun j => hT.2 15 j
      have A16 : ∀ j, 0 ≤ τ_109.2.1 16 j ∧ τ_109.2.1 16 j ≤ 999 := fun j => hT.2 16 j
      have A71 : ∀ j, (-1) ≤ τ_109.2.1 71 j ∧ τ_109.2.1 71 j ≤ 99 := fun j => hT.2 71 j
      have A72 : ∀ j, 0 ≤ τ_109.2.1 72 j ∧ τ_109.2.1 72 j ≤ 999 := fun j => hT.2 72 j
      have A75 : ∀ j, 0 ≤ τ_109.2.1 75 j ∧ τ_109.2.1 75 j ≤ 3 := fun j => hT.2 75 j
      have A85 : ∀ j, (-2147483648) ≤ τ_109.2.1 85 j ∧ τ_109.2.1 85 j ≤ 2147483647 := fun j => hT.2 85 j
      have v3 : 0 ≤ τ_109.1 3 ∧ τ_109.1 3 ≤ 1000 := hT.1 3
      have v5 : 0 ≤ τ_109.1 5 ∧ τ_109.1 5 ≤ 1500 := hT.1 5
      have v46 : 0 ≤ τ_109.1 46 ∧ τ_109.1 46 ≤ 100 := hT.1 46
      refine h109 n2 n3 u4_109 u5_109 u6_109 τ_109 ?_
      refine ⟨fun c25 => ?_, fun c25 => ?_⟩
      ·
        exact l_142 ((62 - 1 : Int).toNat + 1) _ _ _ _ (show (62 - 1 : Int) < (((62 - 1 : Int).toNat + 1 : Nat) : Int) from by ((first | omega | (simp only [st_s] <;> omega) | assumption | omega | fail))) hT (show τ_109.1 3 = σ.1 3 from by first | exact W3 | omega) (show τ_109.1 5 = σ.1 5 from by first | exact W5 | omega) (show τ_109.1 46 = σ.1 46 from by first | exact W46 | omega) G8 G10 G14 G15 G16 G71 G72 G75 (show u4_109 = y_nn σ n1 from by (first | omega | (simp only [st_s] <;> omega) | assumption | omega | fail)) (show u5_109 = σ.2.1 14 n1 + 1 from by (first | omega | (simp only [st_s] <;> omega) | assumption | omega | fail)) (show y_nn σ n1 ≤ n3 - n2 from by (first | omega | (simp only [st_s] <;> omega) | assumption | omega | fail)) (show 1 ≤ 1 from by (first | omega | (simp only [st_s] <;> omega) | assumption | omega | fail)) (show 1 ≤ y_nn σ n1 + 1 from by (first | omega | (simp only [st_s] <;> omega) | assumption | omega | fail)) (show ∀ k : Int, 0 ≤ k → k < 1 → y_f0 (σ.2.1 72) (y_W1 (σ.1 3) (σ.2.1 71) (σ.2.1 75)) (y_f σ n1) n2 n3 (y_nn σ n1) (τ_109.2.1 85) k from by (first | exact i142_6 | (intro k a b; rw [show k = 0 from by omega]; exact y_f0_0 (fun q c d => i109_6 q c (by omega))) | (intro k a b; rcases (by omega : k < u6_198 ∨ k = u6_198) with z | z; (exact i198_10 k a z); (rw [z]; exact y_f1_e (by omega) (by rw [show n3 = u9_198 from by omega]; rw [show u9_198 = n3 from by omega]; have w := i198_11; rw [show u9_198 = n3 from by omega] at w; exact w))) | fail))
      ·
        refine ⟨fun c26 => ?_, fun c26 => ?_⟩
        ·
          refine h132 _ _ _ _ _ _ _ _ ?_
          refine ⟨(show 0 ≤ u6_109 ∧ u6_109 < 3800 from by (first | omega | (simp only [st_s] <;> omega) | assumption | omega | fail)), ?_⟩
          replace hT := mT_a (k := 85) (j := u6_109) hT (show (-2147483648 : Int) ≤ 0 ∧ 0 ≤ 2147483647 from by (first | omega | (simp only [st_s] <;> omega) | assumption | omega | fail))
          refine ⟨(⟨by (first | omega | (simp only [st_s] <;> omega) | assumption | omega | fail), by (first | omega | (simp only [st_s] <;> omega) | assumption | omega | fail)⟩ : rg (u6_109 + 1)), ?_⟩
          exact ih_109 _ _ _ _ (show (61 - (u6_109 + 1) : Int) < ((m_109 : Nat) : Int) from by ((first | omega | (simp only [st_s] <;> omega) | assumption | omega | fail))) hT (show τ_109.1 3 = σ.1 3 from by first | exact W3 | omega) (show τ_109.1 5 = σ.1 5 from by first | exact W5 | omega) (show τ_109.1 46 = σ.1 46 from by first | exact W46 | omega) G8 G10 G14 G15 G16 G71 G72 G75 (show u4_109 = y_nn σ n1 from by (first | omega | (simp only [st_s] <;> omega) | assumption | omega | fail)) (show u5_109 = σ.2.1 14 n1 + 1 from by (first | omega | (simp only [st_s] <;> omega) | assumption | omega | fail)) (show y_nn σ n1 ≤ n3 - n2 from by (first | omega | (simp only [st_s] <;> omega) | assumption | omega | fail)) (show n2 ≤ (u6_109 + 1) from by (first | omega | (simp only [st_s] <;> omega) | assumption | omega | fail)) (show (u6_109 + 1) ≤ n3 + 1 from by (first | omega | (simp only [st_s] <;> omega) | assumption | omega | fail)) (show ∀ q : Int, n2 ≤ q → q < (u6_109 + 1) → (q = n2 ∧ (st (τ_109.2.1 85) u6_109 0) q = 1) ∨ (¬ q = n2 ∧ (st (τ_109.2.1 85) u6_109 0) q = 0) from by (first | (intro q a b; exfalso; omega) | (intro q a b; rcases (by omega : q < u6_109 ∨ q = u6_109) with z | z; (rw [st_n _ _ (by omega)]; exact i109_6 q a z); (rw [z, st_s]; omega)) | fail))
        ·
          refine h132 _ _ _ _ _ _ _ _ ?_
          refine ⟨(show 0 ≤ u6_109 ∧ u6_109 < 3800 from by (first | omega | (simp only [st_s] <;> omega) | assumption | omega | fail)), ?_⟩
          replace hT := mT_a (k := 85) (j := u6_109) hT (show (-2147483648 : Int) ≤ 1 ∧ 1 ≤ 2147483647 from by (first | omega | (simp only [st_s] <;> omega) | assumption | omega | fail))
          refine ⟨(⟨by (first | omega | (simp only [st_s] <;> omega) | assumption | omega | fail), by (first | omega | (simp only [st_s] <;> omega) | assumption | omega | fail)⟩ : rg (u6_109 + 1)), ?_⟩
          exact ih_109 _ _ _ _ (show (61 - (u6_109 + 1) : Int) < ((m_109 : Nat) : Int) from by ((first | omega | (simp only [st_s] <;> omega) | assumption | omega | fail))) hT (show τ_109.1 3 = σ.1 3 from by first | exact W3 | omega) (show τ_109.1 5 = σ.1 5 from by first | exact W5 | omega) (show τ_109.1 46 = σ.1 46 from by first | exact W46 | omega) G8 G10 G14 G15 G16 G71 G72 G75 (show u4_109 = y_nn σ n1 from by (first | omega | (simp only [st_s] <;> omega) | assumption | omega | fail)) (show u5_109 = σ.2.1 14 n1 + 1 from by (first | omega | (simp only [st_s] <;> omega) | assumption | omega | fail)) (show y_nn σ n1 ≤ n3 - n2 from by (first | omega | (simp only [st_s] <;> omega) | assumption | omega | fail)) (show n2 ≤ (u6_109 + 1) from by (first | omega | (simp only [st_s] <;> omega) | assumption | omega | fail)) (show (u6_109 + 1) ≤ n3 + 1 from by (first | omega | (simp only [st_s] <;> omega) | assumption | omega | fail)) (show ∀ q : Int, n2 ≤ q → q < (u6_109 + 1) → (q = n2 ∧ (st (τ_109.2.1 85) u6_109 1) q = 1) ∨ (¬ q = n2 ∧ (st (τ_109.2.1 85) u6_109 1) q = 0) from by (first | (intro q a b; exfalso; omega) | (intro q a b; rcases (by omega : q < u6_109 ∨ q = u6_109) with z | z; (rw [st_n _ _ (by omega)]; exact i109_6 q a z); (rw [z, st_s]; omega)) | fail))
  refine ⟨(show 0 ≤ n1 ∧ n1 < 1501 from by (first | omega | (simp only [st_s] <;> omega) | assumption | omega | fail)), ?_⟩
  intro x2 r_x2 e_x2
  have b_x2 : 0 ≤ x2 ∧ x2 ≤ 300 := by rw [e_x2]; exact hT.2 15 _
  intro x3 r_x3 e_x3
  have b_x3 : 0 ≤ x3 ∧ x3 ≤ 30000 := by rw [e_x3]; exact hT.2 14 _
  refine ⟨(⟨by (first | omega | (simp only [st_s] <;> omega) | assumption | omega | fail), by (first | omega | (simp only [st_s] <;> omega) | assumption | omega | fail)⟩ : rg (x2 - 1)), ?_⟩
  refine ⟨(⟨by (first | omega | (simp only [st_s] <;> omega) | assumption | omega | fail), by (first | omega | (simp only [st_s] <;> omega) | assumption | omega | fail)⟩ : rg (n3 - n2)), ?_⟩
  refine ⟨fun c6 => ?_, fun c6 => ?_⟩
  ·
    exact ⟨hT, (show y_p1 (σ.2.1 72) (y_W1 (σ.1 3) (σ.2.1 71) (σ.2.1 75)) (y_f σ n1) n2 (y_nn σ n1).toNat n3 → ∀ k : Int, 0 ≤ k → k ≤ y_nn σ n1 → y_f0 (σ.2.1 72) (y_W1 (σ.1 3) (σ.2.1 71) (σ.2.1 75)) (y_f σ n1) n2 n3 (y_nn σ n1) (σ.2.1 85) k from by (first | (intro y k a b; exact i142_6 k a (by omega)) | (intro y; exact absurd y (by (have w := i198_12; rw [show u9_198 = n3 from by omega] at w; exact y_f2_z w (by omega) (by omega) (by omega)))) | (intro y; have l := y_p1_l _ _ y; exfalso; omega) | (intro y; exfalso; have e1 := f8.1 (by omega); have z := y_p1_a1 y (by omega) (by omega); omega) | (intro y; exfalso; have e1 := f17.1 (by omega); have z := y_p1_z y (by omega) (by omega); omega) | fail))⟩
  ·
    refine ⟨(show 0 ≤ (x3 + 1) ∧ (x3 + 1) < 30400 from by (first | omega | (simp only [st_s] <;> omega) | assumption | omega | fail)), ?_⟩
    intro x8 r_x8 e_x8
    have b_x8 : 0 ≤ x8 ∧ x8 ≤ 999 := by rw [e_x8]; exact hT.2 16 _
    have f8 := FC 1 x8 (by rw [e_x8]; exact congrArg (σ.2.1 16) (by omega))
    refine ⟨(show 0 ≤ x8 ∧ x8 < 1001 from by (first | omega | (simp only [st_s] <;> omega) | assumption | omega | fail)), ?_⟩
    intro x10 r_x10 e_x10
    have b_x10 : 0 ≤ x10 ∧ x10 ≤ 1 := by rw [e_x10]; exact hT.2 8 _
    refine ⟨fun c11 => ?_, fun c11 => ?_⟩
    ·
      refine h61 _ _ _ _ _ ?_
      refine ⟨(show 0 ≤ (((x3 + 1) + (x2 - 1)) - 1) ∧ (((x3 + 1) + (x2 - 1)) - 1) < 30400 from by (first | omega | (simp only [st_s] <;> omega) | assumption | omega | fail)), ?_⟩
      intro x17 r_x17 e_x17
      have b_x17 : 0 ≤ x17 ∧ x17 ≤ 999 := by rw [e_x17]; exact hT.2 16 _
      have f17 := FC (y_nn σ n1) x17 (by rw [e_x17]; exact congrArg (σ.2.1 16) (by omega))
      refine ⟨(show 0 ≤ x17 ∧ x17 < 1001 from by (first | omega | (simp only [st_s] <;> omega) | assumption | omega | fail)), ?_⟩
      intro x19 r_x19 e_x19
      have b_x19 : 0 ≤ x19 ∧ x19 ≤ 1 := by rw [e_x19]; exact hT.2 8 _
      refine ⟨fun c20 => ?_, fun c20 => ?_⟩
      ·
        exact l_109 ((61 - n2 : Int).toNat + 1) _ _ _ _ (show (61 - n2 : Int) < (((61 - n2 : Int).toNat + 1 : Nat) : Int) from by ((first | omega | (simp only [st_s] <;> omega) | assumption | omega | fail))) hT (show σ.1 3 = σ.1 3 from by first | exact W3 | omega) (show σ.1 5 = σ.1 5 from by first | exact W5 | omega) (show σ.1 46 = σ.1 46 from by first | exact W46 | omega) G8 G10 G14 G15 G16 G71 G72 G75 (show (x2 - 1) = y_nn σ n1 from by (first | omega | (simp only [st_s] <;> omega) | assumption | omega | fail)) (show (x3 + 1) = σ.2.1 14 n1 + 1 from by (first | omega | (simp only [st_s] <;> omega) | assumption | omega | fail)) (show y_nn σ n1 ≤ n3 - n2 from by (first | omega | (simp only [st_s] <;> omega) | assumption | omega | fail)) (show n2 ≤ n2 from by (first | omega | (simp only [st_s] <;> omega) | assumption | omega | fail)) (show n2 ≤ n3 + 1 from by (first | omega | (simp only [st_s] <;> omega) | assumption | omega | fail)) (show ∀ q : Int, n2 ≤ q → q < n2 → (q = n2 ∧ σ.2.1 85 q = 1) ∨ (¬ q = n2 ∧ σ.2.1 85 q = 0) from by (first | (intro q a b; exfalso; omega) | (intro q a b; rcases (by omega : q < u6_109 ∨ q = u6_109) with z | z; (rw [st_n _ _ (by omega)]; exact i109_6 q a z); (rw [z, st_s]; omega)) | fail))
      ·
        intro x21 r_x21 e_x21
        have b_x21 : 0 ≤ x21 ∧ x21 ≤ 999 := by rw [e_x21]; exact hT.2 16 _
        refine ⟨(show 0 ≤ (n3 - 1) ∧ (n3 - 1) < 64 from by (first | omega | (simp only [st_s] <;> omega) | assumption | omega | fail)), ?_⟩
        intro x23 r_x23 e_x23
        have b_x23 : 0 ≤ x23 ∧ x23 ≤ 999 := by rw [e_x23]; exact hT.2 72 _
        refine ⟨fun c24 => ?_, fun c24 => ?_⟩
        ·
          exact l_109 ((61 - n2 : Int).toNat + 1) _ _ _ _ (show (61 - n2 : Int) < (((61 - n2 : Int).toNat + 1 : Nat) : Int) from by ((first | omega | (simp only [st_s] <;> omega) | assumption | omega | fail))) hT (show σ.1 3 = σ.1 3 from by first | exact W3 | omega) (show σ.1 5 = σ.1 5 from by first | exact W5 | omega) (show σ.1 46 = σ.1 46 from by first | exact W46 | omega) G8 G10 G14 G15 G16 G71 G72 G75 (show (x2 - 1) = y_nn σ n1 from by (first | omega | (simp only [st_s] <;> omega) | assumption | omega | fail)) (show (x3 + 1) = σ.2.1 14 n1 + 1 from by (first | omega | (simp only [st_s] <;> omega) | assumption | omega | fail)) (show y_nn σ n1 ≤ n3 - n2 from by (first | omega | (simp only [st_s] <;> omega) | assumption | omega | fail)) (show n2 ≤ n2 from by (first | omega | (simp only [st_s] <;> omega) | assumption | omega | fail)) (show n2 ≤ n3 + 1 from by (first | omega | (simp only [st_s] <;> omega) | assumption | omega | fail)) (show ∀ q : Int, n2 ≤ q → q < n2 → (q = n2 ∧ σ.2.1 85 q = 1) ∨ (¬ q = n2 ∧ σ.2.1 85 q = 0) from by (first | (intro q a b; exfalso; omega) | (intro q a b; rcases (by omega : q < u6_109 ∨ q = u6_109) with z | z; (rw [st_n _ _ (by omega)]; exact i109_6 q a z); (rw [z, st_s]; omega)) | fail))
        ·
          exact ⟨hT, (show y_p1 (σ.2.1 72) (y_W1 (σ.1 3) (σ.2.1 71) (σ.2.1 75)) (y_f σ n1) n2 (y_nn σ n1).toNat n3 → ∀ k : Int, 0 ≤ k → k ≤ y_nn σ n1 → y_f0 (σ.2.1 72) (y_W1 (σ.1 3) (σ.2.1 71) (σ.2.1 75)) (y_f σ n1) n2 n3 (y_nn σ n1) (σ.2.1 85) k from by (first | (intro y k a b; exact i142_6 k a (by omega)) | (intro y; exact absurd y (by (have w := i198_12; rw [show u9_198 = n3 from by omega] at w; exact y_f2_z w (by omega) (by omega) (by omega)))) | (intro y; have l := y_p1_l _ _ y; exfalso; omega) | (intro y; exfalso; have e1 := f8.1 (by omega); have z := y_p1_a1 y (by omega) (by omega); omega) | (intro y; exfalso; have e1 := f17.1 (by omega); have z := y_p1_z y (by omega) (by omega); omega) | fail))⟩
    ·
      intro x12 r_x12 e_x12
      have b_x12 : 0 ≤ x12 ∧ x12 ≤ 999 := by rw [e_x12]; exact hT.2 16 _
      refine ⟨(show 0 ≤ n2 ∧ n2 < 64 from by (first | omega | (simp only [st_s] <;> omega) | assumption | omega | fail)), ?_⟩
      intro x14 r_x14 e_x14
      have b_x14 : 0 ≤ x14 ∧ x14 ≤ 999 := by rw [e_x14]; exact hT.2 72 _
      refine ⟨fun c15 => ?_, fun c15 => ?_⟩
      ·
        refine h61 _ _ _ _ _ ?_
        refine ⟨(show 0 ≤ (((x3 + 1) + (x2 - 1)) - 1) ∧ (((x3 + 1) + (x2 - 1)) - 1) < 30400 from by (first | omega | (simp only [st_s] <;> omega) | assumption | omega | fail)), ?_⟩
        intro x17 r_x17 e_x17
        have b_x17 : 0 ≤ x17 ∧ x17 ≤ 999 := by rw [e_x17]; exact hT.2 16 _
        have f17 := FC (y_nn σ n1) x17 (by rw [e_x17]; exact congrArg (σ.2.1 16) (by omega))
        refine ⟨(show 0 ≤ x17 ∧ x17 < 1001 from by (first | omega | (simp only [st_s] <;> omega) | assumption | omega | fail)), ?_⟩
        intro x19 r_x19 e_x19
        have b_x19 : 0 ≤ x19 ∧ x19 ≤ 1 := by rw [e_x19]; exact hT.2 8 _
        refine ⟨fun c20 => ?_, fun c20 => ?_⟩
        ·
          exact l_109 ((61 - n2 : Int).toNat + 1) _ _ _ _ (show (61 - n2 : Int) < (((61 - n2 : Int).toNat + 1 : Nat) : Int) from by ((first | omega | (simp only [st_s] <;> omega) | assumption | omega | fail))) hT (show σ.1 3 = σ.1 3 from by first | exact W3 | omega) (show σ.1 5 = σ.1 5 from by first | exact W5 | omega) (show σ.1 46 = σ.1 46 from by first | exact W46 | omega) G8 G10 G14 G15 G16 G71 G72 G75 (show (x2 - 1) = y_nn σ n1 from by (first | omega | (simp only [st_s] <;> omega) | assumption | omega | fail)) (show (x3 + 1) = σ.2.1 14 n1 + 1 from by (first | omega | (simp only [st_s] <;> omega) | assumption | omega | fail)) (show y_nn σ n1 ≤ n3 - n2 from by (first | omega | (simp only [st_s] <;> omega) | assumption | omega | fail)) (show n2 ≤ n2 from by (first | omega | (simp only [st_s] <;> omega) | assumption | omega | fail)) (show n2 ≤ n3 + 1 from by (first | omega | (simp only [st_s] <;> omega) | assumption | omega | fail)) (show ∀ q : Int, n2 ≤ q → q < n2 → (q = n2 ∧ σ.2.1 85 q = 1) ∨ (¬ q = n2 ∧ σ.2.1 85 q = 0) from by (first | (intro q a b; exfalso; omega) | (intro q a b; rcases (by omega : q < u6_109 ∨ q = u6_109) with z | z; (rw [st_n _ _ (by omega)]; exact i109_6 q a z); (rw [z, st_s]; omega)) | fail))
        ·
          intro x21 r_x21 e_x21
          have b_x21 : 0 ≤ x21 ∧ x21 ≤ 999 := by rw [e_x21]; exact hT.2 16 _
          refine ⟨(show 0 ≤ (n3 - 1) ∧ (n3 - 1) < 64 from by (first | omega | (simp only [st_s] <;> omega) | assumption | omega | fail)), ?_⟩
          intro x23 r_x23 e_x23
          have b_x23 : 0 ≤ x23 ∧ x23 ≤ 999 := by rw [e_x23]; exact hT.2 72 _
          refine ⟨fun c24 => ?_, fun c24 => ?_⟩
          ·
            exact l_109 ((61 - n2 : Int).toNat + 1) _ _ _ _ (show (61 - n2 : Int) < (((61 - n2 : Int).toNat + 1 : Nat) : Int) from by ((first | omega | (simp only [st_s] <;> omega) | assumption | omega | fail))) hT (show σ.1 3 = σ.1 3 from by first | exact W3 | omega) (show σ.1 5 = σ.1 5 from by first | exact W5 | omega) (show σ.1 46 = σ.1 46 from by first | exact W46 | omega) G8 G10 G14 G15 G16 G71 G72 G75 (show (x2 - 1) = y_nn σ n1 from by (first | omega | (simp only [st_s] <;> omega) | assumption | omega | fail)) (show (x3 + 1) = σ.2.1 14 n1 + 1 from by (first | omega | (simp only [st_s] <;> omega) | assumption | omega | fail)) (show y_nn σ n1 ≤ n3 - n2 from by (first | omega | (simp only [st_s] <;> omega) | assumption | omega | fail)) (show n2 ≤ n2 from by (first | omega | (simp only [st_s] <;> omega) | assumption | omega | fail)) (show n2 ≤ n3 + 1 from by (first | omega | (simp only [st_s] <;> omega) | assumption | omega | fail)) (show ∀ q : Int, n2 ≤ q → q < n2 → (q = n2 ∧ σ.2.1 85 q = 1) ∨ (¬ q = n2 ∧ σ.2.1 85 q = 0) from by (first | (intro q a b; exfalso; omega) | (intro q a b; rcases (by omega : q < u6_109 ∨ q = u6_109) with z | z; (rw [st_n _ _ (by omega)]; exact i109_6 q a z); (rw [z, st_s]; omega)) | fail))
          ·
            exact ⟨hT, (show y_p1 (σ.2.1 72) (y_W1 (σ.1 3) (σ.2.1 71) (σ.2.1 75)) (y_f σ n1) n2 (y_nn σ n1).toNat n3 → ∀ k : Int, 0 ≤ k → k ≤ y_nn σ n1 → y_f0 (σ.2.1 72) (y_W1 (σ.1 3) (σ.2.1 71) (σ.2.1 75)) (y_f σ n1) n2 n3 (y_nn σ n1) (σ.2.1 85) k from by (first | (intro y k a b; exact i142_6 k a (by omega)) | (intro y; exact absurd y (by (have w := i198_12; rw [show u9_198 = n3 from by omega] at w; exact y_f2_z w (by omega) (by omega) (by omega)))) | (intro y; have l := y_p1_l _ _ y; exfalso; omega) | (intro y; exfalso; have e1 := f8.1 (by omega); have z := y_p1_a1 y (by omega) (by omega); omega) | (intro y; exfalso; have e1 := f17.1 (by omega); have z := y_p1_z y (by omega) (by omega); omega) | fail))⟩
      ·
        exact ⟨hT, (show y_p1 (σ.2.1 72) (y_W1 (σ.1 3) (σ.2.1 71) (σ.2.1 75)) (y_f σ n1) n2 (y_nn σ n1).toNat n3 → ∀ k : Int, 0 ≤ k → k ≤ y_nn σ n1 → y_f0 (σ.2.1 72) (y_W1 (σ.1 3) (σ.2.1 71) (σ.2.1 75)) (y_f σ n1) n2 n3 (y_nn σ n1) (σ.2.1 85) k from by (first | (intro y k a b; exact i142_6 k a (by omega)) | (intro y; exact absurd y (by (have w := i198_12; rw [show u9_198 = n3 from by omega] at w; exact y_f2_z w (by omega) (by omega) (by omega)))) | (intro y; have l := y_p1_l _ _ y; exfalso; omega) | (intro y; exfalso; have e1 := f8.1 (by omega); have z := y_p1_a1 y (by omega) (by omega); omega) | (intro y; exfalso; have e1 := f17.1 (by omega); have z := y_p1_z y (by omega) (by omega); omega) | fail))⟩
