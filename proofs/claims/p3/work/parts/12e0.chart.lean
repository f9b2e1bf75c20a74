-- pure: what the model's chart tells: one way, two ways, told of spans
/-- a row of steps makes a stretch: in one way at least -/
def y_p1 (row : Int → Int) (W : Int → Int → Int → Prop) (f : Int → Int) (i : Int) : Nat → Int → Prop
  | 0, q => q = i
  | k + 1, q => (0 ≤ f ((k : Int) + 1) ∧ i < q ∧ row (q - 1) = f ((k : Int) + 1) ∧ y_p1 row W f i k (q - 1)) ∨ (f ((k : Int) + 1) < 0 ∧ ∃ p : Int, (i ≤ p ∧ p < q) ∧ y_p1 row W f i k p ∧ W (-2 - f ((k : Int) + 1)) p q)
/-- in two ways at least -/
def y_p2 (row : Int → Int) (W V : Int → Int → Int → Prop) (f : Int → Int) (i : Int) : Nat → Int → Prop
  | 0, _ => False
  | k + 1, q => (0 ≤ f ((k : Int) + 1) ∧ i < q ∧ row (q - 1) = f ((k : Int) + 1) ∧ y_p2 row W V f i k (q - 1)) ∨ (f ((k : Int) + 1) < 0 ∧ ((∃ p : Int, (i ≤ p ∧ p < q) ∧ ((y_p2 row W V f i k p ∧ W (-2 - f ((k : Int) + 1)) p q) ∨ (y_p1 row W f i k p ∧ V (-2 - f ((k : Int) + 1)) p q))) ∨ ∃ p o : Int, (i ≤ p ∧ p < o ∧ o < q) ∧ (y_p1 row W f i k p ∧ W (-2 - f ((k : Int) + 1)) p q) ∧ y_p1 row W f i k o ∧ W (-2 - f ((k : Int) + 1)) o q))
theorem y_p1_l {row : Int → Int} {W : Int → Int → Int → Prop} {f : Int → Int} {i : Int} : ∀ (k : Nat) (q : Int), y_p1 row W f i k q → i + (k : Int) ≤ q
  | 0, q, h => by have h : q = i := h; omega
  | k + 1, q, h => by
    rcases h with ⟨_, _, _, h⟩ | ⟨_, p, hp, h, _⟩
    · have := y_p1_l k (q - 1) h; omega
    · have := y_p1_l k p h; omega
theorem y_p21 {row : Int → Int} {W V : Int → Int → Int → Prop} {f : Int → Int} {i : Int} (vw : ∀ t p q : Int, V t p q → W t p q) : ∀ (k : Nat) (q : Int), y_p2 row W V f i k q → y_p1 row W f i k q
  | 0, _, h => h.elim
  | k + 1, q, h => by
    rcases h with ⟨a, b, c, h⟩ | ⟨a, h | ⟨p, o, hp, ⟨h1, h2⟩, _⟩⟩
    · exact Or.inl ⟨a, b, c, y_p21 vw k (q - 1) h⟩
    · obtain ⟨p, hp, ⟨h1, h2⟩ | ⟨h1, h2⟩⟩ := h
      · exact Or.inr ⟨a, p, hp, y_p21 vw k p h1, h2⟩
      · exact Or.inr ⟨a, p, hp, h1, vw _ _ _ h2⟩
    · exact Or.inr ⟨a, p, ⟨hp.1, by omega⟩, h1, h2⟩
/-- only what stands within the stretch counts -/
theorem y_p1_x {row row2 : Int → Int} {W W2 : Int → Int → Int → Prop} {f : Int → Int} {i : Int} : ∀ (k : Nat) (q : Int), (∀ j : Int, i ≤ j → j < q → row2 j = row j) → (∀ o : Int, 1 ≤ o → o ≤ (k : Int) → f o < 0 → ∀ p r : Int, i + o - 1 ≤ p → p < r → r ≤ q - ((k : Int) - o) → (o = 1 → p = i) → (W (-2 - f o) p r ↔ W2 (-2 - f o) p r)) → (y_p1 row W f i k q ↔ y_p1 row2 W2 f i k q)
  | 0, q, _, _ => Iff.rfl
  | k + 1, q, hr, hw => by
    have c : ((k + 1 : Nat) : Int) = (k : Int) + 1 := by omega
    have ih : ∀ p : Int, p < q → (y_p1 row W f i k p ↔ y_p1 row2 W2 f i k p) := fun p hp => y_p1_x k p (fun j a b => hr j a (by omega)) (fun o a b d p r e g l m => hw o a (by omega) d p r e g (by omega) m)
    have hs : ∀ p : Int, f ((k : Int) + 1) < 0 → p < q → y_p1 row W f i k p → (W (-2 - f ((k : Int) + 1)) p q ↔ W2 (-2 - f ((k : Int) + 1)) p q) := fun p a b d => by
      have l := y_p1_l k p d
      exact hw ((k : Int) + 1) (by omega) (by omega) a p q (by omega) b (by omega) (fun z => by
        have k0 : k = 0 := by omega
        subst k0; exact d)
    constructor
    · rintro (⟨a, b, d, h⟩ | ⟨a, p, hp, h1, h2⟩)
      · exact Or.inl ⟨a, b, by rw [hr (q - 1) (by omega) (by omega)]; exact d, (ih (q - 1) (by omega)).mp h⟩
      · exact Or.inr ⟨a, p, hp, (ih p hp.2).mp h1, (hs p a hp.2 h1).mp h2⟩
    · rintro (⟨a, b, d, h⟩ | ⟨a, p, hp, h1, h2⟩)
      · exact Or.inl ⟨a, b, by rw [← hr (q - 1) (by omega) (by omega)]; exact d, (ih (q - 1) (by omega)).mpr h⟩
      · exact Or.inr ⟨a, p, hp, (ih p hp.2).mpr h1, (hs p a hp.2 ((ih p hp.2).mpr h1)).mpr h2⟩
theorem y_p2_x {row row2 : Int → Int} {W W2 V V2 : Int → Int → Int → Prop} {f : Int → Int} {i : Int} (vw : ∀ t p q : Int, V t p q → W t p q) (vw2 : ∀ t p q : Int, V2 t p q → W2 t p q) : ∀ (k : Nat) (q : Int), (∀ j : Int, i ≤ j → j < q → row2 j = row j) → (∀ o : Int, 1 ≤ o → o ≤ (k : Int) → f o < 0 → ∀ p r : Int, i + o - 1 ≤ p → p < r → r ≤ q - ((k : Int) - o) → (o = 1 → p = i) → (W (-2 - f o) p r ↔ W2 (-2 - f o) p r) ∧ (V (-2 - f o) p r ↔ V2 (-2 - f o) p r)) → (y_p2 row W V f i k q ↔ y_p2 row2 W2 V2 f i k q)
  | 0, q, _, _ => Iff.rfl
  | k + 1, q, hr, hw => by
    have ih : ∀ p : Int, p < q → (y_p2 row W V f i k p ↔ y_p2 row2 W2 V2 f i k p) := fun p hp => y_p2_x vw vw2 k p (fun j a b => hr j a (by omega)) (fun o a b d p r e g l m => hw o a (by omega) d p r e g (by omega) m)
    have i1 : ∀ p : Int, p < q → (y_p1 row W f i k p ↔ y_p1 row2 W2 f i k p) := fun p hp => y_p1_x k p (fun j a b => hr j a (by omega)) (fun o a b d p r e g l m => (hw o a (by omega) d p r e g (by omega) m).1)
    have hs : ∀ p : Int, f ((k : Int) + 1) < 0 → p < q → y_p1 row W f i k p → (W (-2 - f ((k : Int) + 1)) p q ↔ W2 (-2 - f ((k : Int) + 1)) p q) ∧ (V (-2 - f ((k : Int) + 1)) p q ↔ V2 (-2 - f ((k : Int) + 1)) p q) := fun p a b d => by
      have l := y_p1_l k p d
      exact hw ((k : Int) + 1) (by omega) (by omega) a p q (by omega) b (by omega) (fun z => by
        have k0 : k = 0 := by omega
        subst k0; exact d)
    constructor
    · rintro (⟨a, b, d, h⟩ | ⟨a, ⟨p, hp, ⟨h1, h2⟩ | ⟨h1, h2⟩⟩ | ⟨p, o, hp, ⟨h1, h2⟩, h3, h4⟩⟩)
      · exact Or.inl ⟨a, b, by rw [hr (q - 1) (by omega) (by omega)]; exact d, (ih (q - 1) (by omega)).mp h⟩
      · exact Or.inr ⟨a, Or.inl ⟨p, hp, Or.inl ⟨(ih p hp.2).mp h1, (hs p a hp.2 (y_p21 vw k p h1)).1.mp h2⟩⟩⟩
      · exact Or.inr ⟨a, Or.inl ⟨p, hp, Or.inr ⟨(i1 p hp.2).mp h1, (hs p a hp.2 h1).2.mp h2⟩⟩⟩
      · exact Or.inr ⟨a, Or.inr ⟨p, o, hp, ⟨(i1 p (by omega)).mp h1, (hs p a (by omega) h1).1.mp h2⟩, (i1 o hp.2.2).mp h3, (hs o a hp.2.2 h3).1.mp h4⟩⟩
    · rintro (⟨a, b, d, h⟩ | ⟨a, ⟨p, hp, ⟨h1, h2⟩ | ⟨h1, h2⟩⟩ | ⟨p, o, hp, ⟨h1, h2⟩, h3, h4⟩⟩)
      · exact Or.inl ⟨a, b, by rw [← hr (q - 1) (by omega) (by omega)]; exact d, (ih (q - 1) (by omega)).mpr h⟩
      · have w := (ih p hp.2).mpr h1
        exact Or.inr ⟨a, Or.inl ⟨p, hp, Or.inl ⟨w, (hs p a hp.2 (y_p21 vw k p w)).1.mpr h2⟩⟩⟩
      · have w := (i1 p hp.2).mpr h1
        exact Or.inr ⟨a, Or.inl ⟨p, hp, Or.inr ⟨w, (hs p a hp.2 w).2.mpr h2⟩⟩⟩
      · have w := (i1 p (by omega)).mpr h1
        have w2 := (i1 o hp.2.2).mpr h3
        exact Or.inr ⟨a, Or.inr ⟨p, o, hp, ⟨w, (hs p a (by omega) w).1.mpr h2⟩, w2, (hs o a hp.2.2 w2).1.mpr h4⟩⟩
theorem y_u1 {row : Int → Int} {W : Int → Int → Int → Prop} {f : Int → Int} {i j : Int} (h : f 1 < 0) (ij : i < j) : y_p1 row W f i 1 j ↔ W (-2 - f 1) i j := by
  constructor
  · rintro (⟨a, _⟩ | ⟨_, p, hp, e, w⟩)
    · have a : 0 ≤ f 1 := a
      omega
    · have e : p = i := e
      rw [e] at w; exact w
  · intro w
    exact Or.inr ⟨h, i, ⟨Int.le_refl _, ij⟩, rfl, w⟩
theorem y_u2 {row : Int → Int} {W V : Int → Int → Int → Prop} {f : Int → Int} {i j : Int} (h : f 1 < 0) (ij : i < j) : y_p2 row W V f i 1 j ↔ V (-2 - f 1) i j := by
  constructor
  · rintro (⟨a, _⟩ | ⟨_, ⟨p, hp, ⟨e, _⟩ | ⟨e, w⟩⟩ | ⟨p, o, hp, ⟨e1, _⟩, e2, _⟩⟩)
    · have a : 0 ≤ f 1 := a
      omega
    · exact e.elim
    · have e : p = i := e
      rw [e] at w; exact w
    · have e1 : p = i := e1
      have e2 : o = i := e2
      omega
  · intro w
    exact Or.inr ⟨h, Or.inl ⟨i, ⟨Int.le_refl _, ij⟩, Or.inr ⟨rfl, w⟩⟩⟩
/-- a leaf of a type -/
def y_L (ls : Int → Int) (t i j : Int) : Prop := j = i + 1 ∧ 0 ≤ t ∧ ls i = t
/-- a rule that counts -/
def y_cb (lim : Int) (In : Int → Prop) (hd : Int → Int) (t r : Int) : Prop := (0 ≤ r ∧ r < lim) ∧ In r ∧ hd r = t
def y_E1 (lim : Int) (In : Int → Prop) (hd nn : Int → Int) (f : Int → Int → Int) (row ls : Int → Int) (W : Int → Int → Int → Prop) (t i j : Int) : Prop := y_L ls t i j ∨ ∃ r : Int, y_cb lim In hd t r ∧ y_p1 row W (f r) i (nn r).toNat j
def y_E2 (lim : Int) (In : Int → Prop) (hd nn : Int → Int) (f : Int → Int → Int) (row ls : Int → Int) (W V : Int → Int → Int → Prop) (t i j : Int) : Prop := (y_L ls t i j ∧ ∃ r : Int, y_cb lim In hd t r ∧ y_p1 row W (f r) i (nn r).toNat j) ∨ (∃ r : Int, y_cb lim In hd t r ∧ y_p2 row W V (f r) i (nn r).toNat j) ∨ ∃ r s : Int, r < s ∧ (y_cb lim In hd t r ∧ y_p1 row W (f r) i (nn r).toNat j) ∧ y_cb lim In hd t s ∧ y_p1 row W (f s) i (nn s).toNat j
def y_E3 (lim : Int) (In : Int → Prop) (hd nn : Int → Int) (f : Int → Int → Int) (row ls : Int → Int) (W : Int → Int → Int → Prop) (ρ : Int → Int → Int → Int) (t i j : Int) : Prop := (0 ≤ ρ t i j ∧ ρ t i j ≤ 99) ∧ (y_L ls t i j ∨ ∃ r : Int, y_cb lim In hd t r ∧ y_p1 row W (f r) i (nn r).toNat j ∧ (nn r = 1 → f r 1 < 0 → ρ (-2 - f r 1) i j < ρ t i j))
/-- a cell is done -/
def y_ok (lim : Int) (In : Int → Prop) (hd nn : Int → Int) (f : Int → Int → Int) (row ls : Int → Int) (W V : Int → Int → Int → Prop) (ρ : Int → Int → Int → Int) (t i j : Int) : Prop := (W t i j ↔ y_E1 lim In hd nn f row ls W t i j) ∧ (V t i j ↔ y_E2 lim In hd nn f row ls W V t i j) ∧ (W t i j → y_E3 lim In hd nn f row ls W ρ t i j)
/-- a chart that is done -/
def y_CH (lim len : Int) (In : Int → Prop) (hd nn : Int → Int) (f : Int → Int → Int) (row ls : Int → Int) (W V : Int → Int → Int → Prop) (ρ : Int → Int → Int → Int) : Prop := (∀ t p q : Int, V t p q → W t p q) ∧ ∀ t i j : Int, 0 ≤ i → i < j → j ≤ len → y_ok lim In hd nn f row ls W V ρ t i j
section
variable {lim len : Int} {In : Int → Prop} {hd nn : Int → Int} {f : Int → Int → Int} {row ls : Int → Int}
theorem y_sm {W W2 V V2 : Int → Int → Int → Prop} (vw : ∀ t p q : Int, V t p q → W t p q) (vw2 : ∀ t p q : Int, V2 t p q → W2 t p q) {i j r : Int} (n1 : 1 ≤ nn r) (nu : ¬ (nn r = 1 ∧ f r 1 < 0)) (i0 : 0 ≤ i) (jl : j ≤ len) (h : ∀ t p q : Int, 0 ≤ p → p < q → q ≤ len → q - p < j - i → (W t p q ↔ W2 t p q) ∧ (V t p q ↔ V2 t p q)) : (y_p1 row W (f r) i (nn r).toNat j ↔ y_p1 row W2 (f r) i (nn r).toNat j) ∧ (y_p2 row W V (f r) i (nn r).toNat j ↔ y_p2 row W2 V2 (f r) i (nn r).toNat j) := by
  have g : ∀ o : Int, 1 ≤ o → o ≤ ((nn r).toNat : Int) → f r o < 0 → ∀ p q : Int, i + o - 1 ≤ p → p < q → q ≤ j - (((nn r).toNat : Int) - o) → (W (-2 - f r o) p q ↔ W2 (-2 - f r o) p q) ∧ (V (-2 - f r o) p q ↔ V2 (-2 - f r o) p q) := fun o a b c p q d e g => by
    refine h _ p q (by omega) e (by omega) ?_
    rcases (by omega : 2 ≤ o ∨ (o = 1 ∧ 2 ≤ nn r) ∨ (o = 1 ∧ nn r = 1)) with z | z | z
    · omega
    · omega
    · exact absurd ⟨z.2, by rw [z.1] at c; exact c⟩ nu
  exact ⟨y_p1_x _ _ (fun _ _ _ => rfl) (fun o a b c p q d e k _ => (g o a b c p q d e k).1), y_p2_x vw vw2 _ _ (fun _ _ _ => rfl) (fun o a b c p q d e k _ => g o a b c p q d e k)⟩
theorem y_w1 {W W2 V V2 : Int → Int → Int → Prop} {ρ ρ2 : Int → Int → Int → Int} (n1 : ∀ r : Int, In r → 1 ≤ nn r) (c : y_CH lim len In hd nn f row ls W V ρ) (c2 : y_CH lim len In hd nn f row ls W2 V2 ρ2) {i j : Int} (i0 : 0 ≤ i) (ij : i < j) (jl : j ≤ len) (h : ∀ t p q : Int, 0 ≤ p → p < q → q ≤ len → q - p < j - i → (W t p q ↔ W2 t p q) ∧ (V t p q ↔ V2 t p q)) : ∀ (n : Nat) (t : Int), ρ t i j < (n : Int) → W t i j → W2 t i j
  | 0, t, l, w => by
    have e := ((c.2 t i j i0 ij jl).2.2 w).1
    omega
  | n + 1, t, l, w => by
    obtain ⟨_, e⟩ := (c.2 t i j i0 ij jl).2.2 w
    refine (c2.2 t i j i0 ij jl).1.mpr ?_
    rcases e with e | ⟨r, hr, hp, hk⟩
    · exact Or.inl e
    · refine Or.inr ⟨r, hr, ?_⟩
      by_cases u : nn r = 1 ∧ f r 1 < 0
      · have hp : y_p1 row W (f r) i (nn r).toNat j := hp
        rw [u.1] at hp ⊢
        exact (y_u1 u.2 ij).mpr (y_w1 n1 c c2 i0 ij jl h n _ (by have := hk u.1 u.2; omega) ((y_u1 u.2 ij).mp hp))
      · exact (y_sm c.1 c2.1 (n1 r hr.2.1) u i0 jl h).1.mp hp
theorem y_v1 {W W2 V V2 : Int → Int → Int → Prop} {ρ ρ2 : Int → Int → Int → Int} (n1 : ∀ r : Int, In r → 1 ≤ nn r) (c : y_CH lim len In hd nn f row ls W V ρ) (c2 : y_CH lim len In hd nn f row ls W2 V2 ρ2) {i j : Int} (i0 : 0 ≤ i) (ij : i < j) (jl : j ≤ len) (h : ∀ t p q : Int, 0 ≤ p → p < q → q ≤ len → q - p < j - i → (W t p q ↔ W2 t p q) ∧ (V t p q ↔ V2 t p q)) (hw : ∀ t : Int, W t i j ↔ W2 t i j) : ∀ (n : Nat) (t : Int), ρ2 t i j < (n : Int) → W2 t i j → V t i j → V2 t i j
  | 0, t, l, w, _ => by
    have e := ((c2.2 t i j i0 ij jl).2.2 w).1
    omega
  | n + 1, t, l, w, v => by
    have P : ∀ r : Int, In r → (y_p1 row W (f r) i (nn r).toNat j ↔ y_p1 row W2 (f r) i (nn r).toNat j) := fun r hr => by
      by_cases u : nn r = 1 ∧ f r 1 < 0
      · rw [u.1]; exact (y_u1 u.2 ij).trans ((hw _).trans (y_u1 u.2 ij).symm)
      · exact (y_sm c.1 c2.1 (n1 r hr) u i0 jl h).1
    refine (c2.2 t i j i0 ij jl).2.1.mpr ?_
    rcases (c.2 t i j i0 ij jl).2.1.mp v with ⟨e, r, hr, hp⟩ | ⟨r, hr, hp⟩ | ⟨r, s, rs, ⟨hr, hp⟩, hs, hq⟩
    · exact Or.inl ⟨e, r, hr, (P r hr.2.1).mp hp⟩
    · by_cases u : nn r = 1 ∧ f r 1 < 0
      · have hp : y_p2 row W V (f r) i (nn r).toNat j := hp
        have h1 := (P r hr.2.1).mp (y_p21 c.1 _ _ hp)
        rw [u.1] at hp
        have v1 := (y_u2 u.2 ij).mp hp
        obtain ⟨_, e⟩ := (c2.2 t i j i0 ij jl).2.2 w
        rcases e with e | ⟨s, hs, hq, hk⟩
        · exact Or.inl ⟨e, r, hr, h1⟩
        · rcases Int.lt_trichotomy r s with z | z | z
          · exact Or.inr (Or.inr ⟨r, s, z, ⟨hr, h1⟩, hs, hq⟩)
          · subst z
            refine Or.inr (Or.inl ⟨r, hr, ?_⟩)
            have w1 : W2 (-2 - f r 1) i j := (hw _).mp (c.1 _ _ _ v1)
            have v2 := y_v1 n1 c c2 i0 ij jl h hw n _ (by have := hk u.1 u.2; omega) w1 v1
            rw [u.1]; exact (y_u2 u.2 ij).mpr v2
          · exact Or.inr (Or.inr ⟨s, r, z, ⟨hs, hq⟩, hr, h1⟩)
      · exact Or.inr (Or.inl ⟨r, hr, (y_sm c.1 c2.1 (n1 r hr.2.1) u i0 jl h).2.mp hp⟩)
    · exact Or.inr (Or.inr ⟨r, s, rs, ⟨hr, (P r hr.2.1).mp hp⟩, hs, (P s hs.2.1).mp hq⟩)
/-- two charts of the same rules and row tell the same -/
theorem y_un {W W2 V V2 : Int → Int → Int → Prop} {ρ ρ2 : Int → Int → Int → Int} (n1 : ∀ r : Int, In r → 1 ≤ nn r) (c : y_CH lim len In hd nn f row ls W V ρ) (c2 : y_CH lim len In hd nn f row ls W2 V2 ρ2) : ∀ (n : Nat) (t i j : Int), 0 ≤ i → i < j → j ≤ len → j - i < (n : Int) → (W t i j ↔ W2 t i j) ∧ (V t i j ↔ V2 t i j)
  | 0, t, i, j, i0, ij, jl, l => by omega
  | n + 1, t, i, j, i0, ij, jl, l => by
    have h : ∀ t p q : Int, 0 ≤ p → p < q → q ≤ len → q - p < j - i → (W t p q ↔ W2 t p q) ∧ (V t p q ↔ V2 t p q) := fun t p q a b d e => y_un n1 c c2 n t p q a b d (by omega)
    have h' : ∀ t p q : Int, 0 ≤ p → p < q → q ≤ len → q - p < j - i → (W2 t p q ↔ W t p q) ∧ (V2 t p q ↔ V t p q) := fun t p q a b d e => ⟨(h t p q a b d e).1.symm, (h t p q a b d e).2.symm⟩
    have hw : ∀ t : Int, W t i j ↔ W2 t i j := fun t => ⟨fun w => y_w1 n1 c c2 i0 ij jl h (ρ t i j + 1).toNat t (by have := ((c.2 t i j i0 ij jl).2.2 w).1; omega) w, fun w => y_w1 n1 c2 c i0 ij jl h' (ρ2 t i j + 1).toNat t (by have := ((c2.2 t i j i0 ij jl).2.2 w).1; omega) w⟩
    refine ⟨hw t, fun v => ?_, fun v => ?_⟩
    · have w := (hw t).mp (c.1 _ _ _ v)
      exact y_v1 n1 c c2 i0 ij jl h hw (ρ2 t i j + 1).toNat t (by have := ((c2.2 t i j i0 ij jl).2.2 w).1; omega) w v
    · have w := (hw t).mpr (c2.1 _ _ _ v)
      exact y_v1 n1 c2 c i0 ij jl h' (fun t => (hw t).symm) (ρ t i j + 1).toNat t (by have := ((c.2 t i j i0 ij jl).2.2 w).1; omega) w v
end
/-- a node below others tells a row of steps -/
def y_pt (up sp : Int → Int) (hd : Int) (f : Int → Int) : Nat → Int → Prop
  | 0, x => 1 ≤ x ∧ up x = 0 ∧ sp x = hd
  | k + 1, x => 1 ≤ x ∧ sp x = f ((k : Int) + 1) ∧ y_pt up sp hd f k (up x)
theorem y_pt_1 {up sp : Int → Int} {hd : Int} {f : Int → Int} : ∀ (k : Nat) (x : Int), y_pt up sp hd f k x → 1 ≤ x
  | 0, _, h => h.1
  | _ + 1, _, h => h.1
theorem y_pt_e {up sp up' sp' : Int → Int} {N hd : Int} {f : Int → Int} (e : ∀ y : Int, 1 ≤ y → y < N → up' y = up y ∧ sp' y = sp y) (l : ∀ y : Int, 1 ≤ y → y < N → up y < y) : ∀ (k : Nat) (x : Int), x < N → y_pt up sp hd f k x → y_pt up' sp' hd f k x
  | 0, x, xn, ⟨h1, h2, h3⟩ => by
    have w := e x h1 xn
    exact ⟨h1, by rw [w.1]; exact h2, by rw [w.2]; exact h3⟩
  | k + 1, x, xn, ⟨h1, h2, h3⟩ => by
    have w := e x h1 xn
    have lx := l x h1 xn
    refine ⟨h1, by rw [w.2]; exact h2, ?_⟩
    rw [w.1]
    exact y_pt_e e l k (up x) (by omega) h3
/-- two rows of steps of one node are the same -/
theorem y_pt_u {up sp : Int → Int} {hd hd' : Int} {f f' : Int → Int} : ∀ (k k' : Nat) (x : Int), y_pt up sp hd f k x → y_pt up sp hd' f' k' x → k = k' ∧ hd = hd' ∧ ∀ j : Int, 1 ≤ j → j ≤ (k : Int) → f j = f' j
  | 0, 0, x, h, g => ⟨rfl, h.2.2.symm.trans g.2.2, fun j a b => by omega⟩
  | 0, k' + 1, x, h, g => by
    have w := y_pt_1 k' (up x) g.2.2
    have := h.2.1; omega
  | k + 1, 0, x, h, g => by
    have w := y_pt_1 k (up x) h.2.2
    have := g.2.1; omega
  | k + 1, k' + 1, x, h, g => by
    obtain ⟨a, b, c⟩ := y_pt_u k k' (up x) h.2.2 g.2.2
    refine ⟨by omega, b, fun j j0 j1 => ?_⟩
    rcases (by omega : j ≤ (k : Int) ∨ j = (k : Int) + 1) with z | z
    · exact c j j0 z
    · subst a
      rw [z, ← h.2.1, ← g.2.1]
theorem y_p1_f {row : Int → Int} {W : Int → Int → Int → Prop} {f f' : Int → Int} {i : Int} : ∀ (k : Nat) (q : Int), (∀ j : Int, 1 ≤ j → j ≤ (k : Int) → f j = f' j) → y_p1 row W f i k q → y_p1 row W f' i k q
  | 0, _, _, h => h
  | k + 1, q, e, h => by
    have e1 := e ((k : Int) + 1) (by omega) (by omega)
    have ih := fun q => y_p1_f (row := row) (W := W) (i := i) k q (fun j a b => e j a (by omega))
    rcases h with ⟨a, b, c, d⟩ | ⟨a, p, hp, h1, h2⟩
    · exact Or.inl ⟨by omega, b, by omega, ih _ d⟩
    · exact Or.inr ⟨by omega, p, hp, ih _ h1, by rw [← e1]; exact h2⟩
theorem y_p2_f {row : Int → Int} {W V : Int → Int → Int → Prop} {f f' : Int → Int} {i : Int} : ∀ (k : Nat) (q : Int), (∀ j : Int, 1 ≤ j → j ≤ (k : Int) → f j = f' j) → y_p2 row W V f i k q → y_p2 row W V f' i k q
  | 0, _, _, h => h
  | k + 1, q, e, h => by
    have e1 := e ((k : Int) + 1) (by omega) (by omega)
    have ih := fun q => y_p2_f (row := row) (W := W) (V := V) (i := i) k q (fun j a b => e j a (by omega))
    have i1 := fun q => y_p1_f (row := row) (W := W) (i := i) k q (fun j a b => e j a (by omega))
    rcases h with ⟨a, b, c, d⟩ | ⟨a, ⟨p, hp, ⟨h1, h2⟩ | ⟨h1, h2⟩⟩ | ⟨p, o, hp, ⟨h1, h2⟩, h3, h4⟩⟩
    · exact Or.inl ⟨by omega, b, by omega, ih _ d⟩
    · exact Or.inr ⟨by omega, Or.inl ⟨p, hp, Or.inl ⟨ih _ h1, by rw [← e1]; exact h2⟩⟩⟩
    · exact Or.inr ⟨by omega, Or.inl ⟨p, hp, Or.inr ⟨i1 _ h1, by rw [← e1]; exact h2⟩⟩⟩
    · exact Or.inr ⟨by omega, Or.inr ⟨p, o, hp, ⟨i1 _ h1, by rw [← e1]; exact h2⟩, i1 _ h3, by rw [← e1]; exact h4⟩⟩
/-- the rules that are told by nodes -/
def y_T (N M Z : Int) (R : Int → Prop) (hd nn : Int → Int) (f : Int → Int → Int) (up sp fi ot le : Int → Int) : Prop :=
  (∀ x : Int, 1 ≤ x → x < N → 0 ≤ up x ∧ up x < x) ∧
  (∀ r : Int, 0 ≤ r → r < Z → R r → ∃ e : Int, (1 ≤ e ∧ e < N) ∧ y_pt up sp (hd r) (f r) (nn r).toNat e ∧ le e ≤ r ∧ (fi e = r ∨ (fi e < r ∧ ot e ≤ r))) ∧
  (∀ x : Int, 1 ≤ x → x < N → (0 ≤ le x ∧ le x < M ∧ R (le x)) ∧ (∃ k : Nat, (k : Int) ≤ nn (le x) ∧ y_pt up sp (hd (le x)) (f (le x)) k x) ∧ (1 ≤ up x → le (up x) ≤ le x)) ∧
  ∀ x : Int, 1 ≤ x → x < N → (fi x < 1500 → (0 ≤ fi x ∧ fi x < Z ∧ R (fi x)) ∧ y_pt up sp (hd (fi x)) (f (fi x)) (nn (fi x)).toNat x) ∧ (ot x < 1500 → fi x < ot x ∧ (ot x < Z ∧ R (ot x)) ∧ y_pt up sp (hd (ot x)) (f (ot x)) (nn (ot x)).toNat x)
def y_K (N : Int) (up kid nx : Int → Int) : Prop := ∀ x : Int, 0 ≤ x → x < N → (kid x = -1 ∨ (x < kid x ∧ kid x < N ∧ up (kid x) = x)) ∧ (nx x = -1 ∨ (x < nx x ∧ nx x < N ∧ up (nx x) = up x))
/-- the first rules of nodes -/
def y_Tf (N : Int) (fi le : Int → Int) : Prop := (∀ x : Int, 1 ≤ x → x < N → fi x < 1500 → le x ≤ fi x) ∧ ∀ x y : Int, 1 ≤ x → x < y → y < N → fi x < 1500 → fi x ≠ fi y
/-- what stepBelow leaves -/
def y_Sb (n1 n2 N N' x : Int) (up sp fi ot le up' sp' fi' ot' le' : Int → Int) : Prop := ((1 ≤ x ∧ x < N ∧ up x = n1 ∧ sp x = n2) ∧ N' = N ∧ up' = up ∧ sp' = sp ∧ fi' = fi ∧ ot' = ot ∧ le' = le) ∨ (x = N ∧ N' = N + 1 ∧ up' = st up N n1 ∧ sp' = st sp N n2 ∧ fi' = st fi N 1500 ∧ ot' = st ot N 1500 ∧ le' = st le N 1500)
theorem st_id (f : Int → Int) (e : Int) : st f e (f e) = f := by
  funext j
  by_cases z : j = e
  · rw [z, st_s]
  · rw [st_n _ _ z]
theorem y_T_s {N N' M Z r n1 n2 x y : Int} {R : Int → Prop} {hd nn : Int → Int} {f : Int → Int → Int} {up sp fi ot le up' sp' fi' ot' le' : Int → Int} (h : y_T N M Z R hd nn f up sp fi ot le) (s : y_Sb n1 n2 N N' x up sp fi ot le up' sp' fi' ot' le') (N1 : 1 ≤ N) (Mr : M ≤ r + 1) (r0 : 0 ≤ r) (r1 : r < 1500) (zr : Z ≤ r) (hR : R r) (k : Nat) (kn : (k : Int) ≤ nn r) (n0 : 0 ≤ n1) (nN : n1 < N) (ln : 1 ≤ n1 → le n1 ≤ r) (hp : (k = 0 ∧ n1 = 0 ∧ n2 = hd r) ∨ ∃ d : Nat, k = d + 1 ∧ y_pt up sp (hd r) (f r) d n1 ∧ n2 = f r ((d : Int) + 1)) (hy : (le' x ≤ r ∧ y = le' x) ∨ (r < le' x ∧ y = r)) (hF : y_Tf N fi le) :
    (y_T N' (r + 1) Z R hd nn f up' sp' fi' ot' (st le' x y) ∧ y_Tf N' fi' (st le' x y)) ∧ y_pt up' sp' (hd r) (f r) k x ∧ (1 ≤ x ∧ x < N') ∧ st le' x y x ≤ r := by
  obtain ⟨h0, h1, h2, h3⟩ := h
  rcases s with ⟨⟨x1, xN, ux, px⟩, e1, e2, e3, e4, e5, e6⟩ | ⟨e0, e1, e2, e3, e4, e5, e6⟩
  · rw [e6] at hy ⊢
    rw [e1, e2, e3, e4, e5]
    have lx := h2 x x1 xN
    have y1 : y = le x := by omega
    rw [y1, st_id]
    refine ⟨⟨⟨h0, h1, fun z a b => ?_, h3⟩, hF⟩, ?_, ⟨x1, xN⟩, by omega⟩
    · have w := h2 z a b
      exact ⟨⟨w.1.1, by omega, w.1.2.2⟩, w.2⟩
    · rcases hp with ⟨a, b, c⟩ | ⟨d, a, b, c⟩
      · subst a; exact ⟨x1, ux.trans b, px.trans c⟩
      · subst a; exact ⟨x1, px.trans c, by rw [ux]; exact b⟩
  · subst e0
    rw [e6] at hy ⊢
    rw [st_s] at hy
    have y1 : y = r := by omega
    rw [y1, e1, e2, e3, e4, e5, st_st]
    have eq : ∀ z : Int, 1 ≤ z → z < x → st up x n1 z = up z ∧ st sp x n2 z = sp z := fun z a b => ⟨st_n _ _ (by omega), st_n _ _ (by omega)⟩
    have lt : ∀ z : Int, 1 ≤ z → z < x → up z < z := fun z a b => (h0 z a b).2
    have tr : ∀ (k : Nat) (z : Int) (a : Int) (g : Int → Int), z < x → y_pt up sp a g k z → y_pt (st up x n1) (st sp x n2) a g k z := fun k z a g b c => y_pt_e eq lt k z b c
    have px : y_pt (st up x n1) (st sp x n2) (hd r) (f r) k x := by
      rcases hp with ⟨a, b, c⟩ | ⟨d, a, b, c⟩
      · subst a; exact ⟨by omega, by rw [st_s]; exact b, by rw [st_s]; exact c⟩
      · subst a; exact ⟨by omega, by rw [st_s]; exact c, by rw [st_s]; exact tr d n1 _ _ nN b⟩
    refine ⟨⟨⟨fun z a b => ?_, fun s a b c => ?_, fun z a b => ?_, fun z a b => ?_⟩, fun z a b => ?_, fun z w a b c => ?_⟩, px, ⟨by omega, by omega⟩, by rw [st_s]; exact Int.le_refl _⟩
    · rcases (by omega : z < x ∨ z = x) with q | q
      · rw [(eq z a q).1]; exact h0 z a q
      · rw [q, st_s]; exact ⟨n0, nN⟩
    · obtain ⟨e, ⟨a1, a2⟩, a3, a4, a5⟩ := h1 s a b c
      refine ⟨e, ⟨a1, by omega⟩, tr _ e _ _ a2 a3, ?_, ?_⟩
      · rw [st_n _ _ (by omega)]; exact a4
      · rw [st_n _ _ (by omega), st_n _ _ (by omega)]; exact a5
    · rcases (by omega : z < x ∨ z = x) with q | q
      · obtain ⟨⟨w1, w2, w3⟩, ⟨k', w4, w5⟩, w6⟩ := h2 z a q
        rw [st_n le _ (show z ≠ x by omega), (eq z a q).1]
        refine ⟨⟨w1, by omega, w3⟩, ⟨k', w4, tr _ z _ _ q w5⟩, fun l => ?_⟩
        have := lt z a q
        rw [st_n _ _ (by omega)]; exact w6 l
      · rw [q, st_s, st_s]
        refine ⟨⟨r0, by omega, hR⟩, ⟨k, kn, px⟩, fun l => ?_⟩
        rw [st_n _ _ (by omega)]; exact ln l
    · rcases (by omega : z < x ∨ z = x) with q | q
      · obtain ⟨w1, w2⟩ := h3 z a q
        rw [st_n fi _ (show z ≠ x by omega), st_n ot _ (show z ≠ x by omega)]
        exact ⟨fun l => ⟨(w1 l).1, tr _ z _ _ q (w1 l).2⟩, fun l => ⟨(w2 l).1, (w2 l).2.1, tr _ z _ _ q (w2 l).2.2⟩⟩
      · rw [q, st_s, st_s]
        exact ⟨fun l => by omega, fun l => by omega⟩
    · rcases (by omega : z < x ∨ z = x) with q | q
      · rw [st_n fi _ (show z ≠ x by omega), st_n le _ (show z ≠ x by omega)]; exact hF.1 z a q
      · rw [q, st_s]; intro l; omega
    · rw [st_n fi _ (show z ≠ x by omega)]
      rcases (by omega : w < x ∨ w = x) with q | q
      · rw [st_n fi _ (show w ≠ x by omega)]; exact hF.2 z w a b q
      · rw [q, st_s]; intro l; omega
theorem y_T_m {N M M' Z : Int} {R : Int → Prop} {hd nn : Int → Int} {f : Int → Int → Int} {up sp fi ot le : Int → Int} (h : y_T N M Z R hd nn f up sp fi ot le) (l : M ≤ M') : y_T N M' Z R hd nn f up sp fi ot le := by
  obtain ⟨h0, h1, h2, h3⟩ := h
  exact ⟨h0, h1, fun z a b => by have w := h2 z a b; exact ⟨⟨w.1.1, by omega, w.1.2.2⟩, w.2⟩, h3⟩
/-- the rule's last node is its end -/
theorem y_T_z {N r x : Int} {R : Int → Prop} {hd nn : Int → Int} {f : Int → Int → Int} {up sp fi ot le fi' ot' : Int → Int} (h : y_T N (r + 1) r R hd nn f up sp fi ot le) (r0 : 0 ≤ r) (r1 : r < 1500) (hR : R r) (hp : y_pt up sp (hd r) (f r) (nn r).toNat x) (x1 : 1 ≤ x) (xN : x < N) (lx : le x ≤ r) (fb : fi x ≤ 1500) (ob : ot x ≤ 1500)
    (hc : (fi x = 1500 ∧ fi' = st fi x r ∧ ot' = ot) ∨ (¬ fi x = 1500 ∧ ot x = 1500 ∧ fi' = fi ∧ ot' = st ot x r) ∨ (¬ fi x = 1500 ∧ ¬ ot x = 1500 ∧ fi' = fi ∧ ot' = ot)) : y_T N (r + 1) (r + 1) R hd nn f up sp fi' ot' le := by
  obtain ⟨h0, h1, h2, h3⟩ := h
  have hx := h3 x x1 xN
  rcases hc with ⟨c1, c2, c3⟩ | ⟨c1, c2, c3, c4⟩ | ⟨c1, c2, c3, c4⟩
  · have o1 : ot x = 1500 := by
      by_cases z : ot x < 1500
      · have := (hx.2 z).1; omega
      · omega
    rw [c2, c3]
    refine ⟨h0, fun s a b c => ?_, h2, fun z a b => ?_⟩
    · rcases (by omega : s < r ∨ s = r) with q | q
      · obtain ⟨e, a1, a2, a3, a4⟩ := h1 s a q c
        refine ⟨e, a1, a2, a3, ?_⟩
        by_cases y : e = x
        · rw [y] at a4; omega
        · rw [st_n _ _ y]; exact a4
      · rw [q]; exact ⟨x, ⟨x1, xN⟩, hp, lx, Or.inl (st_s _ _ _)⟩
    · have w := h3 z a b
      by_cases y : z = x
      · rw [y, st_s, o1]
        exact ⟨fun _ => ⟨⟨r0, by omega, hR⟩, hp⟩, fun l => by omega⟩
      · rw [st_n _ _ y]
        exact ⟨fun l => ⟨⟨(w.1 l).1.1, by have := (w.1 l).1.2.1; omega, (w.1 l).1.2.2⟩, (w.1 l).2⟩, fun l => ⟨(w.2 l).1, ⟨by have := (w.2 l).2.1.1; omega, (w.2 l).2.1.2⟩, (w.2 l).2.2⟩⟩
  · have f1 := (hx.1 (by omega)).1
    rw [c3, c4]
    refine ⟨h0, fun s a b c => ?_, h2, fun z a b => ?_⟩
    · rcases (by omega : s < r ∨ s = r) with q | q
      · obtain ⟨e, a1, a2, a3, a4⟩ := h1 s a q c
        refine ⟨e, a1, a2, a3, ?_⟩
        by_cases y : e = x
        · rw [y] at a4 ⊢; omega
        · rw [st_n _ _ y]; exact a4
      · rw [q]; exact ⟨x, ⟨x1, xN⟩, hp, lx, Or.inr ⟨by omega, by rw [st_s]; exact Int.le_refl _⟩⟩
    · have w := h3 z a b
      by_cases y : z = x
      · rw [y, st_s]
        exact ⟨fun l => ⟨⟨f1.1, by omega, f1.2.2⟩, (hx.1 l).2⟩, fun _ => ⟨by omega, ⟨by omega, hR⟩, hp⟩⟩
      · rw [st_n _ _ y]
        exact ⟨fun l => ⟨⟨(w.1 l).1.1, by have := (w.1 l).1.2.1; omega, (w.1 l).1.2.2⟩, (w.1 l).2⟩, fun l => ⟨(w.2 l).1, ⟨by have := (w.2 l).2.1.1; omega, (w.2 l).2.1.2⟩, (w.2 l).2.2⟩⟩
  · have f1 := (hx.1 (by omega)).1
    have o1 := (hx.2 (by omega)).2.1
    rw [c3, c4]
    refine ⟨h0, fun s a b c => ?_, h2, fun z a b => ?_⟩
    · rcases (by omega : s < r ∨ s = r) with q | q
      · exact h1 s a q c
      · rw [q]; exact ⟨x, ⟨x1, xN⟩, hp, lx, Or.inr ⟨by omega, by omega⟩⟩
    · have w := h3 z a b
      exact ⟨fun l => ⟨⟨(w.1 l).1.1, by have := (w.1 l).1.2.1; omega, (w.1 l).1.2.2⟩, (w.1 l).2⟩, fun l => ⟨(w.2 l).1, ⟨by have := (w.2 l).2.1.1; omega, (w.2 l).2.1.2⟩, (w.2 l).2.2⟩⟩
theorem y_Tf_z {N M r x : Int} {R : Int → Prop} {hd nn : Int → Int} {f : Int → Int → Int} {up sp fi ot le fi' ot' : Int → Int} (h : y_T N M r R hd nn f up sp fi ot le) (hF : y_Tf N fi le) (lx : le x ≤ r) (hc : (fi x = 1500 ∧ fi' = st fi x r ∧ ot' = ot) ∨ (¬ fi x = 1500 ∧ ot x = 1500 ∧ fi' = fi ∧ ot' = st ot x r) ∨ (¬ fi x = 1500 ∧ ¬ ot x = 1500 ∧ fi' = fi ∧ ot' = ot)) : y_Tf N fi' le := by
  rcases hc with ⟨c1, c2, c3⟩ | ⟨c1, c2, c3, c4⟩ | ⟨c1, c2, c3, c4⟩
  · rw [c2]
    have lt : ∀ z : Int, 1 ≤ z → z < N → fi z < 1500 → fi z < r := fun z a b c => ((h.2.2.2 z a b).1 c).1.2.1
    refine ⟨fun z a b => ?_, fun z w a b c => ?_⟩
    · by_cases y : z = x
      · rw [y, st_s]; exact fun _ => lx
      · rw [st_n _ _ y]; exact hF.1 z a b
    · by_cases y : z = x
      · rw [y, st_s, st_n _ _ (show w ≠ x by omega)]
        intro l
        by_cases v : fi w < 1500
        · have := lt w (by omega) c v; omega
        · omega
      · rw [st_n _ _ y]
        intro l
        by_cases v : w = x
        · rw [v, st_s]; have := lt z a (by omega) l; omega
        · rw [st_n _ _ v]; exact hF.2 z w a b c l
  · rw [c3]; exact hF
  · rw [c3]; exact hF
