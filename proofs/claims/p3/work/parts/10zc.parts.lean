-- pure: parts of a rule in the row
theorem j_b_ush {x : Int64} {k q : Int} (k0 : 0 ≤ k) (k1 : k < 64) (q0 : 0 ≤ q) : j_b (j_ushr x k) q ↔ j_b x (k + q) := by
  unfold j_b
  rw [j_ushr_v k0 k1, BitVec.getLsbD_ushiftRight, show (k + q).toNat = k.toNat + q.toNat from by omega]
theorem j_b_hi {x : Int64} {k : Int} (h : 64 ≤ k) : ¬ j_b x k := by
  unfold j_b
  rw [BitVec.getLsbD_of_ge _ _ (by omega)]
  decide
/-- places from which the symbols of a rule from k on can end at e -/
def g_f1 (len L sp e k : Int) (row K : Int → Int) (Hs : Int → Int → Int → Prop) (x y : Int64) : Prop := ∀ q : Int, 0 ≤ q → q < 64 → (j_b x q → ∃ q2 : Int, q2 < 64 ∧ g_mk len row Hs (K k) q q2 ∧ j_b y q2) ∧ ((∃ q2 : Int, q2 < 64 ∧ g_mk len row Hs (K k) q q2 ∧ j_b y q2) → (K k < 0 → sp ≤ q ∧ q < e) → j_b x q)
def g_fi (len L sp e u : Int) (row K : Int → Int) (Hs : Int → Int → Int → Prop) (F : Int → Int64) : Prop := (∀ q : Int, 0 ≤ q → q < 64 → (j_b (F L) q ↔ q = e)) ∧ ∀ k : Int, u < k → k < L → g_f1 len L sp e k row K Hs (F k) (F (k + 1))
theorem g_fi0 {len L sp e : Int} {row K : Int → Int} {Hs : Int → Int → Int → Prop} {F : Int → Int64} {x : Int64} (hx : ∀ q : Int, 0 ≤ q → q < 64 → (j_b x q ↔ q = e)) : g_fi len L sp e (L - 1) row K Hs (st F L x) := ⟨fun q a b => by rw [st_s]; exact hx q a b, fun k a b => by omega⟩
theorem g_fi_a {len L sp e u : Int} {row K : Int → Int} {Hs : Int → Int → Int → Prop} {F : Int → Int64} {x : Int64} (h : g_fi len L sp e u row K Hs F) (uL : u < L) (hx : g_f1 len L sp e u row K Hs x (F (u + 1))) : g_fi len L sp e (u - 1) row K Hs (st F u x) :=
  ⟨fun q a b => by rw [st_n _ _ (show L ≠ u from by omega)]; exact h.1 q a b, fun k a b => by
    by_cases z : k = u
    · rw [z, st_s, st_n _ _ (show u + 1 ≠ u from by omega)]; exact hx
    · rw [st_n _ _ z, st_n _ _ (show k + 1 ≠ u from by omega)]; exact h.2 k (by omega) b⟩
/-- a constant -/
theorem g_f1_c {len L sp e k : Int} {row K : Int → Int} {Hs : Int → Int → Int → Prop} {w y : Int64} (kz : 0 ≤ K k) (l59 : len ≤ 59) (hw : ∀ q : Int, 0 ≤ q → q < 64 → (j_b w q ↔ q < len ∧ row q = K k)) : g_f1 len L sp e k row K Hs (w &&& j_ushr y 1) y := fun q q0 q1 => by
  rw [j_b_and, hw q q0 q1, j_b_ush (by omega) (by omega) q0, show 1 + q = q + 1 from by omega]
  refine ⟨fun ⟨⟨a, b⟩, c⟩ => ⟨q + 1, by omega, ⟨a, Or.inl ⟨kz, b, rfl⟩⟩, c⟩, fun ⟨q2, a, m, c⟩ _ => ?_⟩
  obtain ⟨m1, ⟨_, m2, m3⟩ | ⟨m2, _⟩⟩ := m
  · rw [m3] at c; exact ⟨⟨m1, m2⟩, c⟩
  · omega
/-- a variable -/
theorem g_f1_v {len L sp e k s : Int} {row K : Int → Int} {b4 : Int → Int64} {x y : Int64} (ks : K k = -1 - s) (s0 : 0 ≤ s) (sl : ∀ q q2 : Int, sp ≤ q → q < e → 0 ≤ q2 → q2 < 64 → g_H b4 s q q2 → q < q2 ∧ q2 ≤ len) (hx : ∀ q : Int, 0 ≤ q → q < 64 → (j_b x q ↔ sp ≤ q ∧ q < e ∧ ∃ q2 : Int, 0 ≤ q2 ∧ q2 < 64 ∧ g_H b4 s q q2 ∧ j_b y q2)) : g_f1 len L sp e k row K (g_H b4) x y := fun q q0 q1 => by
  rw [hx q q0 q1]
  refine ⟨fun ⟨a, b, q2, c0, c, d, f⟩ => ?_, fun ⟨q2, a, m, c⟩ z => ?_⟩
  · have w := sl q q2 a b c0 c d
    exact ⟨q2, c, ⟨by omega, Or.inr ⟨by omega, w.1, w.2, by rw [ks, show -1 - (-1 - s) = s from by omega]; exact d⟩⟩, f⟩
  · have zz := z (by omega)
    obtain ⟨m1, ⟨m2, _⟩ | ⟨_, m2, m3, m4⟩⟩ := m
    · omega
    · rw [ks, show -1 - (-1 - s) = s from by omega] at m4
      exact ⟨zz.1, zz.2, q2, by omega, a, m4, c⟩
theorem g_fi_b {len L sp e : Int} {row K : Int → Int} {Hs : Int → Int → Int → Prop} {F : Int → Int64} (h : g_fi len L sp e 0 row K Hs F) : ∀ (n : Nat) (k : Int), L - k = (n : Int) → 1 ≤ k → ∀ q : Int, 0 ≤ q → q < 64 → j_b (F k) q → q ≤ e ∧ (k < L → q < e)
  | 0, k, hk, k1, q, q0, q1, hq => by
    rw [show k = L from by omega] at hq
    have := (h.1 q q0 q1).mp hq
    omega
  | n + 1, k, hk, k1, q, q0, q1, hq => by
    obtain ⟨q2, a, m, c⟩ := (h.2 k (by omega) (by omega) q q0 q1).1 hq
    have w := g_mk_b m
    have v := g_fi_b h n (k + 1) (by omega) (by omega) q2 (by omega) a c
    omega
theorem g_fi_d {len L sp e : Int} {row K d : Int → Int} {Hs : Int → Int → Int → Prop} {F : Int → Int64} (h : g_fi len L sp e 0 row K Hs F) (e0 : 0 ≤ e) (e1 : e < 64) (dl : d L = e) (up : ∀ k : Int, 0 ≤ k → k ≤ L → sp ≤ d k ∧ d k ≤ e) (s0 : 0 ≤ sp) (mk : ∀ k : Int, 0 ≤ k → k < L → g_mk len row Hs (K k) (d k) (d (k + 1))) : ∀ (n : Nat) (k : Int), L - k = (n : Int) → 1 ≤ k → j_b (F k) (d k)
  | 0, k, hk, k1 => by
    rw [show k = L from by omega, dl]
    exact (h.1 e e0 e1).mpr rfl
  | n + 1, k, hk, k1 => by
    have v := g_fi_d h e0 e1 dl up s0 mk n (k + 1) (by omega) (by omega)
    have u := up k (by omega) (by omega)
    have u2 := up (k + 1) (by omega) (by omega)
    have m := mk k (by omega) (by omega)
    have b := g_mk_b m
    exact (h.2 k (by omega) (by omega) (d k) (by omega) (by omega)).2 ⟨d (k + 1), by omega, m, v⟩ (fun _ => by omega)
/-- the parts of a rule as far as they are taken: at stands behind symbol k -/
def g_ps (len L sp e k at_ fi : Int) (row K tx fl sf sto : Int → Int) (Hs : Int → Int → Int → Prop) (F : Int → Int64) : Prop := ∃ D : Int → Int, D 0 = sp ∧ D k = at_ ∧ (∀ j : Int, 0 ≤ j → j < k → g_mk len row Hs (K j) (D j) (D (j + 1))) ∧ (0 < k → j_b (F k) at_) ∧ ∀ j : Int, 0 ≤ j → j < k → ¬ fl (fi + j) = -1 → ∃ o : Int, 0 ≤ o ∧ o < k ∧ ¬ fl (fi + o) = -1 ∧ tx (fi + o) = tx (fi + j) ∧ sf (tx (fi + j)) = D o ∧ sto (tx (fi + j)) = D (o + 1)
theorem g_ps0 {len L sp e fi : Int} {row K tx fl sf sto : Int → Int} {Hs : Int → Int → Int → Prop} {F : Int → Int64} : g_ps len L sp e 0 sp fi row K tx fl sf sto Hs F := ⟨fun _ => sp, rfl, rfl, fun j a b => by omega, fun z => by omega, fun j a b => by omega⟩
theorem g_ps_a {len L sp e k at_ fi nx : Int} {row K tx fl sf sto sf' sto' : Int → Int} {Hs : Int → Int → Int → Prop} {F : Int → Int64} (h : g_ps len L sp e k at_ fi row K tx fl sf sto Hs F) (k0 : 0 ≤ k) (m : g_mk len row Hs (K k) at_ nx) (f : j_b (F (k + 1)) nx) (sp' : (fl (fi + k) = -1 ∧ sf' = sf ∧ sto' = sto) ∨ (¬ fl (fi + k) = -1 ∧ sf' = st sf (tx (fi + k)) at_ ∧ sto' = st sto (tx (fi + k)) nx)) : g_ps len L sp e (k + 1) nx fi row K tx fl sf' sto' Hs F := by
  obtain ⟨D, d0, d1, d2, d3, d4⟩ := h
  have dn : ∀ j : Int, j ≤ k → st D (k + 1) nx j = D j := fun j hj => st_n _ _ (show j ≠ k + 1 from by omega)
  refine ⟨st D (k + 1) nx, by rw [dn 0 k0]; exact d0, st_s _ _ _, fun j a b => ?_, fun _ => f, fun j a b c => ?_⟩
  · by_cases z : j = k
    · rw [z, dn k (Int.le_refl _), st_s, d1]; exact m
    · rw [dn j (by omega), dn (j + 1) (by omega)]; exact d2 j a (by omega)
  · rcases sp' with ⟨s1, s2, s3⟩ | ⟨s1, s2, s3⟩
    · have jk : j < k := by
        rcases (by omega : j < k ∨ j = k) with y | y
        · exact y
        · rw [y] at c; exact absurd s1 c
      obtain ⟨o, o0, o1, o2, o3, o4, o5⟩ := d4 j a jk c
      rw [s2, s3]
      exact ⟨o, o0, by omega, o2, o3, by rw [dn o (by omega)]; exact o4, by rw [dn (o + 1) (by omega)]; exact o5⟩
    · by_cases z : tx (fi + j) = tx (fi + k)
      · exact ⟨k, k0, by omega, s1, z.symm, by rw [s2, z, st_s, dn k (Int.le_refl _)]; exact d1.symm, by rw [s3, z, st_s, st_s]⟩
      · have jk : j < k := by
          rcases (by omega : j < k ∨ j = k) with y | y
          · exact y
          · rw [y] at z; exact absurd rfl z
        obtain ⟨o, o0, o1, o2, o3, o4, o5⟩ := d4 j a jk c
        refine ⟨o, o0, by omega, o2, o3, ?_, ?_⟩
        · rw [s2, st_n _ _ z, dn o (by omega)]; exact o4
        · rw [s3, st_n _ _ z, dn (o + 1) (by omega)]; exact o5
/-- the next part: some end that the rest can begin from -/
theorem g_ps_n {len L sp e k at_ fi : Int} {row K d tx fl sf sto : Int → Int} {Hs : Int → Int → Int → Prop} {F : Int → Int64} (h : g_ps len L sp e k at_ fi row K tx fl sf sto Hs F) (fi0 : g_fi len L sp e 0 row K Hs F) (k0 : 0 ≤ k) (kL : k < L) (s0 : 0 ≤ sp) (at0 : 0 ≤ at_ ∧ at_ < 64) (d0 : d 0 = sp) (md : g_mk len row Hs (K 0) sp (d 1)) (fd : j_b (F 1) (d 1)) (e1 : e < 64) (de : d 1 ≤ e) : ∃ q2 : Int, q2 < 64 ∧ g_mk len row Hs (K k) at_ q2 ∧ j_b (F (k + 1)) q2 := by
  obtain ⟨D, a0, a1, a2, a3, a4⟩ := h
  by_cases z : k = 0
  · rw [z] at a1 ⊢
    rw [a0] at a1
    rw [← a1]
    exact ⟨d 1, by omega, md, fd⟩
  · exact (fi0.2 k (by omega) kL at_ at0.1 at0.2).1 (a3 (by omega))
-- pure: the lowest bit that is set
theorem nz_odd : ∀ x : Nat, 0 < x → ∃ k m : Nat, x = 2 ^ k * (2 * m + 1) := fun x => by
  induction x using Nat.strongRecOn with
  | _ x ih =>
    intro h
    rcases (by omega : x % 2 = 1 ∨ x % 2 = 0) with z | z
    · exact ⟨0, x / 2, by omega⟩
    · obtain ⟨k, m, e⟩ := ih (x / 2) (by omega) (by omega)
      refine ⟨k + 1, m, ?_⟩
      have : x = 2 * (x / 2) := by omega
      rw [this, e, Nat.pow_succ, Nat.mul_comm (2 ^ k) 2, Nat.mul_assoc]
theorem nz_bit (k m i : Nat) : (2 ^ k * (2 * m + 1)).testBit i = (if i < k then false else (2 * m + 1).testBit (i - k)) := by
  have h := Nat.testBit_two_pow_mul_add (2 * m + 1) (b := 0) (i := k) (Nat.pow_pos (by omega)) i
  rw [Nat.add_zero] at h
  rw [h]
  by_cases z : i < k
  · rw [if_pos z, if_pos z]; exact Nat.zero_testBit i
  · rw [if_neg z, if_neg z]
theorem nz_bit1 (k m i : Nat) : (2 ^ k * (2 * m + 1) - 1).testBit i = (if i < k then true else (2 * m).testBit (i - k)) := by
  have p : 0 < 2 ^ k := Nat.pow_pos (by omega)
  have e : 2 ^ k * (2 * m + 1) - 1 = 2 ^ k * (2 * m) + (2 ^ k - 1) := by
    rw [Nat.mul_add, Nat.mul_one]; omega
  have h := Nat.testBit_two_pow_mul_add (2 * m) (b := 2 ^ k - 1) (i := k) (by omega) i
  rw [e, h]
  by_cases z : i < k
  · rw [if_pos z, if_pos z, Nat.testBit_two_pow_sub_one]; exact decide_eq_true z
  · rw [if_neg z, if_neg z]
theorem nz_and (k m i : Nat) : (!(2 ^ k * (2 * m + 1)).testBit i && (2 ^ k * (2 * m + 1) - 1).testBit i) = decide (i < k) := by
  rw [nz_bit, nz_bit1]
  by_cases z : i < k
  · rw [if_pos z, if_pos z, decide_eq_true z]; rfl
  · rw [if_neg z, if_neg z, decide_eq_false z]
    obtain ⟨j, hj⟩ : ∃ j, i - k = j := ⟨_, rfl⟩
    rw [hj]
    cases j with
    | zero =>
      rw [show (2 * m + 1).testBit 0 = true from by rw [Nat.testBit_zero]; exact decide_eq_true (by omega)]; rfl
    | succ j =>
      rw [Nat.testBit_succ, Nat.testBit_succ, show (2 * m + 1) / 2 = m from by omega, show 2 * m / 2 = m from by omega]
      cases m.testBit j <;> rfl
theorem nz_int : ∀ k : Fin 32, (BitVec.ofNat 32 (2 ^ k.val - 1)).toInt = 2 ^ k.val - 1 := by decide +kernel
theorem nz_m {n : Int} (h : n ≠ 0) (l : -2147483648 ≤ n) (u : n ≤ 2147483647) : ∃ k : Nat, k < 32 ∧ (I n).toBitVec.getLsbD k = true ∧ h_a (-1 - n) (n - 1) = 2 ^ k - 1 := by
  have x0 : 0 < (n % 4294967296).toNat := by omega
  have xu : (n % 4294967296).toNat < 2 ^ 32 := by
    show _ < 4294967296
    omega
  obtain ⟨k, m, e⟩ := nz_odd _ x0
  have bv : ∀ z : Int, (I z).toBitVec.toNat = (z % 4294967296).toNat := fun z => by
    show (BitVec.ofInt 32 z).toNat = _
    rw [BitVec.toNat_ofInt]; rfl
  have k32 : k < 32 := by
    by_cases z : k < 32
    · exact z
    · have : 2 ^ 32 ≤ 2 ^ k := Nat.pow_le_pow_right (by omega) (by omega)
      have : 2 ^ k * 1 ≤ 2 ^ k * (2 * m + 1) := Nat.mul_le_mul_left _ (by omega)
      omega
  refine ⟨k, k32, ?_, ?_⟩
  · rw [← BitVec.testBit_toNat, bv, e, nz_bit, if_neg (Nat.lt_irrefl _), Nat.sub_self, Nat.testBit_zero]
    exact decide_eq_true (by omega)
  · have hh : (I (-1 - n) &&& I (n - 1)).toBitVec = BitVec.ofNat 32 (2 ^ k - 1) := by
      refine BitVec.eq_of_getLsbD_eq (fun i hi => ?_)
      rw [Int32.toBitVec_and, BitVec.getLsbD_and, ← BitVec.testBit_toNat, ← BitVec.testBit_toNat, bv, bv, BitVec.getLsbD_ofNat, decide_eq_true hi, Bool.true_and, Nat.testBit_two_pow_sub_one]
      have a1 : ((-1 - n) % 4294967296).toNat = 2 ^ 32 - ((n % 4294967296).toNat + 1) := by
        show _ = 4294967296 - _
        omega
      have a2 : ((n - 1) % 4294967296).toNat = (n % 4294967296).toNat - 1 := by omega
      rw [a1, a2, Nat.testBit_two_pow_sub_succ xu, decide_eq_true hi, Bool.true_and, e]
      exact nz_and k m i
    show ((I (-1 - n) &&& I (n - 1)).toBitVec).toInt = _
    rw [hh]
    exact nz_int ⟨k, k32⟩
/-- a stretch of r bits is counted, k - r of them before -/
def nz_s (M k u0 u1 : Int) : Prop := ∃ r : Nat, 1 ≤ r ∧ (r : Int) ≤ M ∧ r < 32 ∧ u0 = 2 ^ r - 1 ∧ u1 = 1 + k - (r : Int)
theorem nz_t16 : ∀ r : Fin 32, 16 < r.val → h_u (2 ^ r.val - 1) 16 = 2 ^ (r.val - 16) - 1 := by decide +kernel
theorem nz_t8 : ∀ r : Fin 32, 8 < r.val → r.val ≤ 16 → h_u (2 ^ r.val - 1) 8 = 2 ^ (r.val - 8) - 1 := by decide +kernel
theorem nz_t4 : ∀ r : Fin 32, 4 < r.val → r.val ≤ 8 → h_u (2 ^ r.val - 1) 4 = 2 ^ (r.val - 4) - 1 := by decide +kernel
theorem nz_t2 : ∀ r : Fin 32, 1 ≤ r.val → r.val ≤ 2 → h_u (2 ^ r.val - 1) 1 = (r.val : Int) - 1 := by decide +kernel
theorem nz_t3 : ∀ r : Fin 32, 2 < r.val → r.val ≤ 4 → h_u (h_u (2 ^ r.val - 1) 2) 1 = (r.val : Int) - 3 := by decide +kernel
theorem nz_le : ∀ r : Fin 32, (r.val ≤ 16 ↔ (2 : Int) ^ r.val - 1 ≤ 65536) ∧ (r.val ≤ 8 ↔ (2 : Int) ^ r.val - 1 ≤ 256) ∧ (r.val ≤ 4 ↔ (2 : Int) ^ r.val - 1 ≤ 16) ∧ (r.val ≤ 2 ↔ (2 : Int) ^ r.val - 1 ≤ 4) ∧ (r.val = 0 ↔ (2 : Int) ^ r.val - 1 ≤ 0) := by decide +kernel
theorem nz_p {n x : Int} (hx : x = h_a (-1 - n) (n - 1)) (l : -2147483648 ≤ n) (u : n ≤ 2147483647) : (n = 0 → x = -1) ∧ (n ≠ 0 → ∃ k : Nat, k < 32 ∧ (I n).toBitVec.getLsbD k = true ∧ x = 2 ^ k - 1) :=
  ⟨fun z => by rw [hx, z]; decide +kernel, fun z => by rw [hx]; exact nz_m z l u⟩
theorem nz_1 {n x : Int} (h : n ≠ 0 → ∃ k : Nat, k < 32 ∧ (I n).toBitVec.getLsbD k = true ∧ x = 2 ^ k - 1) (z : n ≠ 0) (x0 : 0 < x) : ∃ k : Nat, 1 ≤ k ∧ k < 32 ∧ (I n).toBitVec.getLsbD k = true ∧ (x ≤ 65536 → nz_s 16 (k : Int) x 1) ∧ (65536 < x → nz_s 16 (k : Int) (h_u x 16) 17) := by
  obtain ⟨k, k1, k2, k3⟩ := h z
  have n := nz_le ⟨k, k1⟩
  rw [← show x = 2 ^ (⟨k, k1⟩ : Fin 32).val - 1 from k3] at n
  have n1 := n.1; have n5 := n.2.2.2.2
  simp only at n1 n5
  refine ⟨k, by omega, k1, k2, fun a => ⟨k, by omega, by omega, k1, k3, by omega⟩, fun a => ⟨k - 16, by omega, by omega, by omega, ?_, by omega⟩⟩
  rw [k3]
  exact nz_t16 ⟨k, k1⟩ (by show 16 < k; omega)
theorem nz_2 {k u0 u1 : Int} (h : nz_s 16 k u0 u1) : (u0 ≤ 256 → nz_s 8 k u0 u1) ∧ (256 < u0 → nz_s 8 k (h_u u0 8) (u1 + 8)) := by
  obtain ⟨r, r1, r2, r3, r4, r5⟩ := h
  have n := nz_le ⟨r, r3⟩
  rw [← show u0 = 2 ^ (⟨r, r3⟩ : Fin 32).val - 1 from r4] at n
  have n2 := n.2.1
  simp only at n2
  refine ⟨fun a => ⟨r, r1, by omega, r3, r4, r5⟩, fun a => ⟨r - 8, by omega, by omega, by omega, ?_, by omega⟩⟩
  rw [r4]
  exact nz_t8 ⟨r, r3⟩ (by show 8 < r; omega) (by show r ≤ 16; omega)
theorem nz_3 {k u0 u1 : Int} (h : nz_s 8 k u0 u1) : (u0 ≤ 16 → nz_s 4 k u0 u1) ∧ (16 < u0 → nz_s 4 k (h_u u0 4) (u1 + 4)) := by
  obtain ⟨r, r1, r2, r3, r4, r5⟩ := h
  have n := nz_le ⟨r, r3⟩
  rw [← show u0 = 2 ^ (⟨r, r3⟩ : Fin 32).val - 1 from r4] at n
  have n2 := n.2.2.1
  simp only at n2
  refine ⟨fun a => ⟨r, r1, by omega, r3, r4, r5⟩, fun a => ⟨r - 4, by omega, by omega, by omega, ?_, by omega⟩⟩
  rw [r4]
  exact nz_t4 ⟨r, r3⟩ (by show 4 < r; omega) (by show r ≤ 8; omega)
theorem nz_4 {k u0 u1 : Int} (h : nz_s 4 k u0 u1) : (u0 ≤ 4 → u1 + h_u u0 1 = k) ∧ (4 < u0 → u1 + 2 + h_u (h_u u0 2) 1 = k) := by
  obtain ⟨r, r1, r2, r3, r4, r5⟩ := h
  have n := nz_le ⟨r, r3⟩
  rw [← show u0 = 2 ^ (⟨r, r3⟩ : Fin 32).val - 1 from r4] at n
  have n2 := n.2.2.2.1
  simp only at n2
  refine ⟨fun a => ?_, fun a => ?_⟩
  · have t := nz_t2 ⟨r, r3⟩ r1 (by show r ≤ 2; omega)
    rw [← show u0 = 2 ^ (⟨r, r3⟩ : Fin 32).val - 1 from r4] at t
    simp only at t
    omega
  · have t := nz_t3 ⟨r, r3⟩ (by show 2 < r; omega) (by show r ≤ 4; omega)
    rw [← show u0 = 2 ^ (⟨r, r3⟩ : Fin 32).val - 1 from r4] at t
    simp only at t
    omega
theorem nz_v (x : Int64) (k : Nat) (hk : k < 32) : (I (h_l2 x)).toBitVec.getLsbD k = x.toBitVec.getLsbD k := by
  have e : (I (h_l2 x)) = x.toInt32 := Int32.ofInt_toInt x.toInt32
  rw [e, Int64.toBitVec_toInt32, BitVec.getLsbD_signExtend, decide_eq_true hk, if_pos (by omega), Bool.true_and]
theorem nz_w {x : Int64} {k : Int} (k0 : 0 ≤ k) (k1 : k < 32) (h : (I (h_l2 x)).toBitVec.getLsbD k.toNat = true) : j_b x k := by
  rw [nz_v x _ (by omega)] at h
  exact h
theorem nz_z {x : Int64} (h : h_l2 x = 0) {k : Int} (k0 : 0 ≤ k) (k1 : k < 32) : ¬ j_b x k := by
  unfold j_b
  rw [← nz_v x _ (by omega), h]
  have e : (I 0).toBitVec = 0#32 := by decide
  rw [e, BitVec.getLsbD_zero]
  decide
theorem nz_zz {x : Int64} (h : h_l2 x = 0) (g : h_l2 (j_ushr x 32) = 0) : x = 0 := j_b_ext (fun k k0 k1 => by
  by_cases z : k < 32
  · exact nz_z h k0 z
  · have w := nz_z g (k := k - 32) (by omega) (by omega)
    rw [j_b_ush (by omega) (by omega) (by omega), show 32 + (k - 32) = k from by omega] at w
    exact w)
theorem nz_r (x : Int64) : -2147483648 ≤ h_l2 x ∧ h_l2 x ≤ 2147483647 := by
  have a := x.toInt32.le_toInt
  have b := x.toInt32.toInt_lt
  unfold h_l2
  omega
set_option maxHeartbeats 1000000 in
theorem K_X1_ruleOf {n1 : Int} {n2 : Int} {n3 : Int} {σ : S0} (hT : c_T σ) (p1 : 0 ≤ n1) (p2 : n1 < 100) (p3 : 0 ≤ n2) (p4 : n2 < n3) (p5 : n3 ≤ 59) : W_X1_ruleOf n1 n2 n3 σ (fun (x : Int) => (x = g_mb (σ.2.1 79) n1 n2 n3) ∧ (0 ≤ x ∧ x ≤ 1499)) := by
  have mm := j_mm (e := n3) (by omega) (by omega)
  unfold W_X1_ruleOf
  refine ⟨(⟨by (first | omega | (simp only [st_s] <;> omega) | assumption | omega | fail), by (first | omega | (simp only [st_s] <;> omega) | assumption | omega | fail)⟩ : rg (n3 * (n3 - 1))), ?_⟩
  intro x2 r_x2 h1_x2 h2_x2
  refine ⟨(show 0 ≤ (((n1 * 1770) + x2) + n2) ∧ (((n1 * 1770) + x2) + n2) < 177000 from by (first | omega | (simp only [st_s] <;> omega) | assumption | omega | fail)), ?_⟩
  intro x4 r_x4 e_x4
  have b_x4 : 0 ≤ x4 ∧ x4 ≤ 1499 := by rw [e_x4]; exact hT.2 79 _
  exact ⟨(show x4 = g_mb (σ.2.1 79) n1 n2 n3 from by (unfold g_mb; rw [e_x4, h1_x2 mm.1])), (show 0 ≤ x4 ∧ x4 ≤ 1499 from by (first | omega | (simp only [st_s] <;> omega) | assumption | omega | fail))⟩
set_option maxHeartbeats 1000000 in
theorem K_X11_cell {n0 : Int} {n1 : Int} {n2 : Int} {σ : S0} (hT : c_T σ) (p1 : 0 ≤ n0 ∧ n0 ≤ 99) (p2 : 0 ≤ n1 ∧ n1 ≤ 59) (p3 : 0 ≤ n2 ∧ n2 ≤ 59) : W_X11_cell n0 n1 n2 σ (fun (x : Int) => (x = ((n0 * 60) + n1) * 60 + n2)) := by
  unfold W_X11_cell
  refine ⟨(⟨by (first | omega | (simp only [st_s] <;> omega) | assumption | omega | fail), by (first | omega | (simp only [st_s] <;> omega) | assumption | omega | fail)⟩ : rg ((((n0 * 60) + n1) * 60) + n2)), ?_⟩
  exact (show ((((n0 * 60) + n1) * 60) + n2) = ((n0 * 60) + n1) * 60 + n2 from by (first | omega | (simp only [st_s] <;> omega) | assumption | omega | fail))
set_option maxHeartbeats 1000000 in
theorem K_X11_sortOf {n1 : Int} {σ : S0} (hT : c_T σ) (p1 : 0 ≤ n1) (p2 : n1 < 30000) (p3 : 0 ≤ σ.2.1 16 n1) (p4 : σ.2.1 14 (σ.2.1 16 n1) < 30000) : W_X11_sortOf n1 σ (fun (x : Int) => (x = σ.2.1 10 (σ.2.1 15 (σ.2.1 14 (σ.2.1 16 n1)))) ∧ (-1 ≤ x ∧ x ≤ 99)) := by
  unfold W_X11_sortOf
  refine ⟨(show 0 ≤ n1 ∧ n1 < 30000 from by (first | omega | (simp only [st_s] <;> omega) | assumption | omega | fail)), ?_⟩
  intro x2 r_x2 e_x2
  have b_x2 : (-1) ≤ x2 ∧ x2 ≤ 1499 := by rw [e_x2]; exact hT.2 16 _
  refine ⟨(show 0 ≤ x2 ∧ x2 < 1501 from by (first | omega | (simp only [st_s] <;> omega) | assumption | omega | fail)), ?_⟩
  intro x4 r_x4 e_x4
  have b_x4 : 0 ≤ x4 ∧ x4 ≤ 30000 := by rw [e_x4]; exact hT.2 14 _
  rw [e_x2] at e_x4
  refine ⟨(show 0 ≤ x4 ∧ x4 < 30000 from by (first | omega | (simp only [st_s] <;> omega) | assumption | omega | fail)), ?_⟩
  intro x6 r_x6 e_x6
  have b_x6 : 0 ≤ x6 ∧ x6 ≤ 999 := by rw [e_x6]; exact hT.2 15 _
  refine ⟨(show 0 ≤ x6 ∧ x6 < 1000 from by (first | omega | (simp only [st_s] <;> omega) | assumption | omega | fail)), ?_⟩
  intro x8 r_x8 e_x8
  have b_x8 : (-1) ≤ x8 ∧ x8 ≤ 99 := by rw [e_x8]; exact hT.2 10 _
  exact ⟨(show x8 = σ.2.1 10 (σ.2.1 15 (σ.2.1 14 (σ.2.1 16 n1))) from by (rw [e_x8, e_x6, e_x4])), (show -1 ≤ x8 ∧ x8 ≤ 99 from by (first | omega | (simp only [st_s] <;> omega) | assumption | omega | fail))⟩
set_option maxHeartbeats 1000000 in
theorem K_X11_startsOf {n1 : Int} {n2 : Int64} {n4 : Int} {n5 : Int} {σ : S0} (hT : c_T σ) (p1 : 0 ≤ n1) (p2 : n1 < 30000) (p3 : ¬ σ.2.1 16 n1 = -1 → σ.2.1 14 (σ.2.1 16 n1) < 30000 ∧ 0 ≤ (σ.2.1 10 (σ.2.1 15 (σ.2.1 14 (σ.2.1 16 n1))))) (p4 : 0 ≤ n4) (p5 : n4 ≤ n5) (p6 : n5 ≤ 59) : W_X11_startsOf n1 n2 n4 n5 σ (fun (x : Int64) => (σ.2.1 16 n1 = -1 → x = σ.2.2 3 (σ.2.1 15 n1) &&& j_ushr n2 1) ∧ (¬ σ.2.1 16 n1 = -1 → ∀ q : Int, 0 ≤ q → q < 64 → (j_b x q ↔ n4 ≤ q ∧ q < n5 ∧ ∃ q2 : Int, 0 ≤ q2 ∧ q2 < 64 ∧ g_H (σ.2.2 4) (σ.2.1 10 (σ.2.1 15 (σ.2.1 14 (σ.2.1 16 n1)))) q q2 ∧ j_b n2 q2))) := by
  intro P52 h52
  have l_52 : ∀ (m_52 : Nat) (u6_52 : Int) (u7_52 : Int64) (u9_52 : Int), 60 - u9_52 < (m_52 : Int) → (n4 ≤ u9_52 ∧ u9_52 ≤ n5) → (u6_52 = (σ.2.1 10 (σ.2.1 15 (σ.2.1 14 (σ.2.1 16 n1)))) * 60 ∧ 0 ≤ (σ.2.1 10 (σ.2.1 15 (σ.2.1 14 (σ.2.1 16 n1)))) ∧ (σ.2.1 10 (σ.2.1 15 (σ.2.1 14 (σ.2.1 16 n1)))) ≤ 99) → (∀ q : Int, 0 ≤ q → q < 64 → (j_b u7_52 q ↔ n4 ≤ q ∧ q < u9_52 ∧ ∃ q2 : Int, 0 ≤ q2 ∧ q2 < 64 ∧ g_H (σ.2.2 4) (σ.2.1 10 (σ.2.1 15 (σ.2.1 14 (σ.2.1 16 n1)))) q q2 ∧ j_b n2 q2)) → (¬ σ.2.1 16 n1 = -1) → P52 n2 n5 u6_52 u7_52 u9_52 := by
    intro m_52
    induction m_52 with
    | zero =>
      intro u6_52 u7_52 u9_52 hm i52_1 i52_2 i52_3 i52_4
      exfalso; (first | omega | (simp only [st_s] <;> omega) | assumption | omega | fail)
    | succ m_52 ih_52 =>
      intro u6_52 u7_52 u9_52 hm_52 i52_1 i52_2 i52_3 i52_4
      refine h52 n2 n5 u6_52 u7_52 u9_52 ?_
      refine ⟨fun c11 => ?_, fun c11 => ?_⟩
      ·
        exact ⟨(show σ.2.1 16 n1 = -1 → u7_52 = σ.2.2 3 (σ.2.1 15 n1) &&& j_ushr n2 1 from by (first | (intro z; exfalso; omega) | (intro _; rw [e_x10, e_x8]) | fail)), (show ¬ σ.2.1 16 n1 = -1 → ∀ q : Int, 0 ≤ q → q < 64 → (j_b u7_52 q ↔ n4 ≤ q ∧ q < n5 ∧ ∃ q2 : Int, 0 ≤ q2 ∧ q2 < 64 ∧ g_H (σ.2.2 4) (σ.2.1 10 (σ.2.1 15 (σ.2.1 14 (σ.2.1 16 n1)))) q q2 ∧ j_b n2 q2) from by (first | (intro z; exfalso; omega) | (intro _ q a b; have w := i52_3 q a b; rw [show u9_52 = n5 from by omega] at w; exact w) | fail))⟩
      ·
        refine ⟨(show 0 ≤ (u6_52 + u9_52) ∧ (u6_52 + u9_52) < 6000 from by (first | omega | (simp only [st_s] <;> omega) | assumption | omega | fail)), ?_⟩
        intro x13 e_x13
        refine ⟨fun c14 => ?_, fun c14 => ?_⟩
        ·
          refine ⟨(⟨by (first | omega | (simp only [st_s] <;> omega) | assumption | omega | fail), by (first | omega | (simp only [st_s] <;> omega) | assumption | omega | fail)⟩ : rg (u9_52 + 1)), ?_⟩
          exact ih_52 _ _ _ (show (60 - (u9_52 + 1) : Int) < ((m_52 : Nat) : Int) from by ((first | omega | (simp only [st_s] <;> omega) | assumption | omega | fail))) (show n4 ≤ (u9_52 + 1) ∧ (u9_52 + 1) ≤ n5 from by (first | omega | (simp only [st_s] <;> omega) | assumption | omega | fail)) (show u6_52 = (σ.2.1 10 (σ.2.1 15 (σ.2.1 14 (σ.2.1 16 n1)))) * 60 ∧ 0 ≤ (σ.2.1 10 (σ.2.1 15 (σ.2.1 14 (σ.2.1 16 n1)))) ∧ (σ.2.1 10 (σ.2.1 15 (σ.2.1 14 (σ.2.1 16 n1)))) ≤ 99 from by (first | omega | (simp only [st_s] <;> omega) | assumption | omega | fail)) (show ∀ q : Int, 0 ≤ q → q < 64 → (j_b u7_52 q ↔ n4 ≤ q ∧ q < (u9_52 + 1) ∧ ∃ q2 : Int, 0 ≤ q2 ∧ q2 < 64 ∧ g_H (σ.2.2 4) (σ.2.1 10 (σ.2.1 15 (σ.2.1 14 (σ.2.1 16 n1)))) q q2 ∧ j_b n2 q2) from by (first | (intro q a b; exact ⟨fun z => absurd z (j_b_0 q), fun z => by omega⟩) | (intro q a b; rw [i52_3 q a b]; refine ⟨fun z => ⟨z.1, by omega, z.2.2⟩, fun z => ⟨z.1, ?_, z.2.2⟩⟩; rcases (by omega : q < u9_52 ∨ q = u9_52) with y | y; exact y; (exfalso; have q9 := z; obtain ⟨_, _, q2, a2, b2, c2, d2⟩ := q9; rw [y] at c2; have v : j_b (x13 &&& n2) q2 := (by rw [j_b_and, e_x13, i52_2.1]; exact ⟨c2, d2⟩); rw [show (x13 &&& n2) = 0 from by assumption] at v; exact j_b_0 q2 v)) | (intro q a b; rw [j_b_or, i52_3 q a b, j_b_one (by omega) (by omega) a b]; refine ⟨fun z => z.elim (fun z => ⟨z.1, by omega, z.2.2⟩) (fun z => ?_), fun z => ?_⟩; (have q9 := j_b_ex (x := x13 &&& n2) (by assumption); obtain ⟨q2, a2, b2, c2⟩ := q9; rw [j_b_and] at c2; exact ⟨by omega, by omega, q2, a2, b2, by (rw [z]; show j_b (σ.2.2 4 (_ * 60 + u9_52)) q2; rw [← i52_2.1, ← e_x13]; exact c2.1), c2.2⟩); (by_cases y : q = u9_52; exact Or.inr y; exact Or.inl ⟨z.1, by omega, z.2.2⟩)) | fail)) (show ¬ σ.2.1 16 n1 = -1 from by (first | omega | (simp only [st_s] <;> omega) | assumption | omega | fail))
        ·
          refine ⟨(⟨by (first | omega | (simp only [st_s] <;> omega) | assumption | omega | fail), by (first | omega | (simp only [st_s] <;> omega) | assumption | omega | fail)⟩ : rg (u9_52 + 1)), ?_⟩
          exact ih_52 _ _ _ (show (60 - (u9_52 + 1) : Int) < ((m_52 : Nat) : Int) from by ((first | omega | (simp only [st_s] <;> omega) | assumption | omega | fail))) (show n4 ≤ (u9_52 + 1) ∧ (u9_52 + 1) ≤ n5 from by (first | omega | (simp only [st_s] <;> omega) | assumption | omega | fail)) (show u6_52 = (σ.2.1 10 (σ.2.1 15 (σ.2.1 14 (σ.2.1 16 n1)))) * 60 ∧ 0 ≤ (σ.2.1 10 (σ.2.1 15 (σ.2.1 14 (σ.2.1 16 n1)))) ∧ (σ.2.1 10 (σ.2.1 15 (σ.2.1 14 (σ.2.1 16 n1)))) ≤ 99 from by (first | omega | (simp only [st_s] <;> omega) | assumption | omega | fail)) (show ∀ q : Int, 0 ≤ q → q < 64 → (j_b (u7_52 ||| (j_shl 1 u9_52)) q ↔ n4 ≤ q ∧ q < (u9_52 + 1) ∧ ∃ q2 : Int, 0 ≤ q2 ∧ q2 < 64 ∧ g_H (σ.2.2 4) (σ.2.1 10 (σ.2.1 15 (σ.2.1 14 (σ.2.1 16 n1)))) q q2 ∧ j_b n2 q2) from by (first | (intro q a b; exact ⟨fun z => absurd z (j_b_0 q), fun z => by omega⟩) | (intro q a b; rw [i52_3 q a b]; refine ⟨fun z => ⟨z.1, by omega, z.2.2⟩, fun z => ⟨z.1, ?_, z.2.2⟩⟩; rcases (by omega : q < u9_52 ∨ q = u9_52) with y | y; exact y; (exfalso; have q9 := z; obtain ⟨_, _, q2, a2, b2, c2, d2⟩ := q9; rw [y] at c2; have v : j_b (x13 &&& n2) q2 := (by rw [j_b_and, e_x13, i52_2.1]; exact ⟨c2, d2⟩); rw [show (x13 &&& n2) = 0 from by assumption] at v; exact j_b_0 q2 v)) | (intro q a b; rw [j_b_or, i52_3 q a b, j_b_one (by omega) (by omega) a b]; refine ⟨fun z => z.elim (fun z => ⟨z.1, by omega, z.2.2⟩) (fun z => ?_), fun z => ?_⟩; (have q9 := j_b_ex (x := x13 &&& n2) (by assumption); obtain ⟨q2, a2, b2, c2⟩ := q9; rw [j_b_and] at c2; exact ⟨by omega, by omega, q2, a2, b2, by (rw [z]; show j_b (σ.2.2 4 (_ * 60 + u9_52)) q2; rw [← i52_2.1, ← e_x13]; exact c2.1), c2.2⟩); (by_cases y : q = u9_52; exact Or.inr y; exact Or.inl ⟨z.1, by omega, z.2.2⟩)) | fail)) (show ¬ σ.2.1 16 n1 = -1 from by (first | omega | (simp only [st_s] <;> omega) | assumption | omega | fail))
  refine ⟨(show 0 ≤ n1 ∧ n1 < 30000 from by (first | omega | (simp only [st_s] <;> omega) | assumption | omega | fail)), ?_⟩
  intro x2 r_x2 e_x2
  have b_x2 : (-1) ≤ x2 ∧ x2 ≤ 1499 := by rw [e_x2]; exact hT.2 16 _
  refine ⟨fun c3 => ?_, fun c3 => ?_⟩
  ·
    refine ⟨_, K_X11_sortOf hT (show 0 ≤ n1 from by (first | omega | (simp only [st_s] <;> omega) | assumption | omega | fail)) (show n1 < 30000 from by (first | omega | (simp only [st_s] <;> omega) | assumption | omega | fail)) (show 0 ≤ σ.2.1 16 n1 from by (first | omega | (simp only [st_s] <;> omega) | assumption | omega | fail)) (show σ.2.1 14 (σ.2.1 16 n1) < 30000 from by (first | omega | (simp only [st_s] <;> omega) | assumption | omega | fail)), ?_⟩
    intro x5 r_x5 hq
    obtain ⟨q4_1, q4_2⟩ := hq
    replace q4_1 : x5 = σ.2.1 10 (σ.2.1 15 (σ.2.1 14 (σ.2.1 16 n1))) := q4_1
    replace q4_2 : -1 ≤ x5 ∧ x5 ≤ 99 := q4_2
    refine ⟨(⟨by (first | omega | (simp only [st_s] <;> omega) | assumption | omega | fail), by (first | omega | (simp only [st_s] <;> omega) | assumption | omega | fail)⟩ : rg (x5 * 60)), ?_⟩
    exact l_52 ((60 - n4 : Int).toNat + 1) _ _ _ (show (60 - n4 : Int) < (((60 - n4 : Int).toNat + 1 : Nat) : Int) from by ((first | omega | (simp only [st_s] <;> omega) | assumption | omega | fail))) (show n4 ≤ n4 ∧ n4 ≤ n5 from by (first | omega | (simp only [st_s] <;> omega) | assumption | omega | fail)) (show (x5 * 60) = (σ.2.1 10 (σ.2.1 15 (σ.2.1 14 (σ.2.1 16 n1)))) * 60 ∧ 0 ≤ (σ.2.1 10 (σ.2.1 15 (σ.2.1 14 (σ.2.1 16 n1)))) ∧ (σ.2.1 10 (σ.2.1 15 (σ.2.1 14 (σ.2.1 16 n1)))) ≤ 99 from by (first | omega | (simp only [st_s] <;> omega) | assumption | omega | fail)) (show ∀ q : Int, 0 ≤ q → q < 64 → (j_b 0 q ↔ n4 ≤ q ∧ q < n4 ∧ ∃ q2 : Int, 0 ≤ q2 ∧ q2 < 64 ∧ g_H (σ.2.2 4) (σ.2.1 10 (σ.2.1 15 (σ.2.1 14 (σ.2.1 16 n1)))) q q2 ∧ j_b n2 q2) from by (first | (intro q a b; exact ⟨fun z => absurd z (j_b_0 q), fun z => by omega⟩) | (intro q a b; rw [i52_3 q a b]; refine ⟨fun z => ⟨z.1, by omega, z.2.2⟩, fun z => ⟨z.1, ?_, z.2.2⟩⟩; rcases (by omega : q < u9_52 ∨ q = u9_52) with y | y; exact y; (exfalso; have q9 := z; obtain ⟨_, _, q2, a2, b2, c2, d2⟩ := q9; rw [y] at c2; have v : j_b (x13 &&& n2) q2 := (by rw [j_b_and, e_x13, i52_2.1]; exact ⟨c2, d2⟩); rw [show (x13 &&& n2) = 0 from by assumption] at v; exact j_b_0 q2 v)) | (intro q a b; rw [j_b_or, i52_3 q a b, j_b_one (by omega) (by omega) a b]; refine ⟨fun z => z.elim (fun z => ⟨z.1, by omega, z.2.2⟩) (fun z => ?_), fun z => ?_⟩; (have q9 := j_b_ex (x := x13 &&& n2) (by assumption); obtain ⟨q2, a2, b2, c2⟩ := q9; rw [j_b_and] at c2; exact ⟨by omega, by omega, q2, a2, b2, by (rw [z]; show j_b (σ.2.2 4 (_ * 60 + u9_52)) q2; rw [← i52_2.1, ← e_x13]; exact c2.1), c2.2⟩); (by_cases y : q = u9_52; exact Or.inr y; exact Or.inl ⟨z.1, by omega, z.2.2⟩)) | fail)) (show ¬ σ.2.1 16 n1 = -1 from by (first | omega | (simp only [st_s] <;> omega) | assumption | omega | fail))
  ·
    intro x8 r_x8 e_x8
    have b_x8 : 0 ≤ x8 ∧ x8 ≤ 999 := by rw [e_x8]; exact hT.2 15 _
    refine ⟨(show 0 ≤ x8 ∧ x8 < 1000 from by (first | omega | (simp only [st_s] <;> omega) | assumption | omega | fail)), ?_⟩
    intro x10 e_x10
    exact ⟨(show σ.2.1 16 n1 = -1 → (x10 &&& (j_ushr n2 1)) = σ.2.2 3 (σ.2.1 15 n1) &&& j_ushr n2 1 from by (first | (intro z; exfalso; omega) | (intro _; rw [e_x10, e_x8]) | fail)), (show ¬ σ.2.1 16 n1 = -1 → ∀ q : Int, 0 ≤ q → q < 64 → (j_b (x10 &&& (j_ushr n2 1)) q ↔ n4 ≤ q ∧ q < n5 ∧ ∃ q2 : Int, 0 ≤ q2 ∧ q2 < 64 ∧ g_H (σ.2.2 4) (σ.2.1 10 (σ.2.1 15 (σ.2.1 14 (σ.2.1 16 n1)))) q q2 ∧ j_b n2 q2) from by (first | (intro z; exfalso; omega) | (intro _ q a b; have w := i52_3 q a b; rw [show u9_52 = n5 from by omega] at w; exact w) | fail))⟩
set_option maxHeartbeats 1000000 in
theorem K_J6_numberOfTrailingZeros_0f7a4 {n0 : Int} {σ : S0} (hT : c_T σ) (p1 : -2147483648 ≤ n0 ∧ n0 ≤ 2147483647) : W_J6_numberOfTrailingZeros_0f7a4 n0 σ (fun (x : Int) => (0 ≤ x ∧ x ≤ 32) ∧ (¬ n0 = 0 → x < 32 ∧ (I n0).toBitVec.getLsbD x.toNat = true)) := by
  intro P34 P49 P62 h34 h49 h62
  have l_62 : ∀ (u0_62 : Int) (u1_62 : Int), (0 ≤ u1_62 ∧ u1_62 ≤ 29) → (¬ n0 = 0) → (∃ k : Nat, 1 ≤ k ∧ k < 32 ∧ (I n0).toBitVec.getLsbD k = true ∧ nz_s 4 (k : Int) u0_62 u1_62) → P62 u0_62 u1_62 := by
    intro u0_62 u1_62 i62_1 i62_2 i62_3
    refine h62 u0_62 u1_62 ?_
    refine ⟨fun c12 => ?_, fun c12 => ?_⟩
    ·
      intro x13 r_x13 e_x13
      obtain ⟨k, k1, k2, k3, k4⟩ := i62_3
      have k5 := (nz_4 k4).1 (by omega)
      rw [← e_x13] at k5
      refine ⟨(⟨by (first | omega | (simp only [st_s] <;> omega) | assumption | omega | fail), by (first | omega | (simp only [st_s] <;> omega) | assumption | omega | fail)⟩ : rg (u1_62 + x13)), ?_⟩
      exact ⟨(show 0 ≤ (u1_62 + x13) ∧ (u1_62 + x13) ≤ 32 from by (first | omega | (by_cases z : n0 = 0; have := n6 (np.1 z); omega; have := n5 (n7 z).1; omega) | fail)), (show ¬ n0 = 0 → (u1_62 + x13) < 32 ∧ (I n0).toBitVec.getLsbD (u1_62 + x13).toNat = true from by (intro z; first | (have w := n5 (n7 z).1; rw [w]; exact ⟨by omega, (n7 z).2⟩) | (rw [k5]; exact ⟨by omega, k3⟩)))⟩
    ·
      intro x15 r_x15 e_x15
      intro x16 r_x16 e_x16
      obtain ⟨k, k1, k2, k3, k4⟩ := i62_3
      have k5 := (nz_4 k4).2 (by omega)
      rw [← e_x15, ← e_x16] at k5
      refine ⟨(⟨by (first | omega | (simp only [st_s] <;> omega) | assumption | omega | fail), by (first | omega | (simp only [st_s] <;> omega) | assumption | omega | fail)⟩ : rg ((u1_62 + 2) + x16)), ?_⟩
      exact ⟨(show 0 ≤ ((u1_62 + 2) + x16) ∧ ((u1_62 + 2) + x16) ≤ 32 from by (first | omega | (by_cases z : n0 = 0; have := n6 (np.1 z); omega; have := n5 (n7 z).1; omega) | fail)), (show ¬ n0 = 0 → ((u1_62 + 2) + x16) < 32 ∧ (I n0).toBitVec.getLsbD ((u1_62 + 2) + x16).toNat = true from by (intro z; first | (have w := n5 (n7 z).1; rw [w]; exact ⟨by omega, (n7 z).2⟩) | (rw [k5]; exact ⟨by omega, k3⟩)))⟩
  have l_49 : ∀ (u0_49 : Int) (u1_49 : Int), (0 ≤ u1_49 ∧ u1_49 ≤ 25) → (¬ n0 = 0) → (∃ k : Nat, 1 ≤ k ∧ k < 32 ∧ (I n0).toBitVec.getLsbD k = true ∧ nz_s 8 (k : Int) u0_49 u1_49) → P49 u0_49 u1_49 := by
    intro u0_49 u1_49 i49_1 i49_2 i49_3
    refine h49 u0_49 u1_49 ?_
    refine ⟨fun c9 => ?_, fun c9 => ?_⟩
    ·
      exact l_62 _ _ (show 0 ≤ u1_49 ∧ u1_49 ≤ 29 from by (first | omega | (simp only [st_s] <;> omega) | assumption | omega | fail)) (show ¬ n0 = 0 from by exact i49_2) (show ∃ k : Nat, 1 ≤ k ∧ k < 32 ∧ (I n0).toBitVec.getLsbD k = true ∧ nz_s 4 (k : Int) u0_49 u1_49 from by (obtain ⟨k, k1, k2, k3, k4⟩ := i49_3; first | exact ⟨k, k1, k2, k3, (nz_3 k4).1 (by omega)⟩ | (rw [e_x10]; exact ⟨k, k1, k2, k3, (nz_3 k4).2 (by omega)⟩)))
    ·
      intro x10 r_x10 e_x10
      refine ⟨(⟨by (first | omega | (simp only [st_s] <;> omega) | assumption | omega | fail), by (first | omega | (simp only [st_s] <;> omega) | assumption | omega | fail)⟩ : rg (u1_49 + 4)), ?_⟩
      exact l_62 _ _ (show 0 ≤ (u1_49 + 4) ∧ (u1_49 + 4) ≤ 29 from by (first | omega | (simp only [st_s] <;> omega) | assumption | omega | fail)) (show ¬ n0 = 0 from by exact i49_2) (show ∃ k : Nat, 1 ≤ k ∧ k < 32 ∧ (I n0).toBitVec.getLsbD k = true ∧ nz_s 4 (k : Int) x10 (u1_49 + 4) from by (obtain ⟨k, k1, k2, k3, k4⟩ := i49_3; first | exact ⟨k, k1, k2, k3, (nz_3 k4).1 (by omega)⟩ | (rw [e_x10]; exact ⟨k, k1, k2, k3, (nz_3 k4).2 (by omega)⟩)))
  have l_34 : ∀ (u0_34 : Int) (u1_34 : Int), (0 ≤ u1_34 ∧ u1_34 ≤ 17) → (¬ n0 = 0) → (∃ k : Nat, 1 ≤ k ∧ k < 32 ∧ (I n0).toBitVec.getLsbD k = true ∧ nz_s 16 (k : Int) u0_34 u1_34) → P34 u0_34 u1_34 := by
    intro u0_34 u1_34 i34_1 i34_2 i34_3
    refine h34 u0_34 u1_34 ?_
    refine ⟨fun c6 => ?_, fun c6 => ?_⟩
    ·
      exact l_49 _ _ (show 0 ≤ u1_34 ∧ u1_34 ≤ 25 from by (first | omega | (simp only [st_s] <;> omega) | assumption | omega | fail)) (show ¬ n0 = 0 from by exact i34_2) (show ∃ k : Nat, 1 ≤ k ∧ k < 32 ∧ (I n0).toBitVec.getLsbD k = true ∧ nz_s 8 (k : Int) u0_34 u1_34 from by (obtain ⟨k, k1, k2, k3, k4⟩ := i34_3; first | exact ⟨k, k1, k2, k3, (nz_2 k4).1 (by omega)⟩ | (rw [e_x7]; exact ⟨k, k1, k2, k3, (nz_2 k4).2 (by omega)⟩)))
    ·
      intro x7 r_x7 e_x7
      refine ⟨(⟨by (first | omega | (simp only [st_s] <;> omega) | assumption | omega | fail), by (first | omega | (simp only [st_s] <;> omega) | assumption | omega | fail)⟩ : rg (u1_34 + 8)), ?_⟩
      exact l_49 _ _ (show 0 ≤ (u1_34 + 8) ∧ (u1_34 + 8) ≤ 25 from by (first | omega | (simp only [st_s] <;> omega) | assumption | omega | fail)) (show ¬ n0 = 0 from by exact i34_2) (show ∃ k : Nat, 1 ≤ k ∧ k < 32 ∧ (I n0).toBitVec.getLsbD k = true ∧ nz_s 8 (k : Int) x7 (u1_34 + 8) from by (obtain ⟨k, k1, k2, k3, k4⟩ := i34_3; first | exact ⟨k, k1, k2, k3, (nz_2 k4).1 (by omega)⟩ | (rw [e_x7]; exact ⟨k, k1, k2, k3, (nz_2 k4).2 (by omega)⟩)))
  intro x1 r_x1 e_x1
  have np := nz_p e_x1 p1.1 p1.2
  refine ⟨fun c2 => ?_, fun c2 => ?_⟩
  ·
    refine ⟨fun c3 => ?_, fun c3 => ?_⟩
    ·
      exact l_34 _ _ (show 0 ≤ 1 ∧ 1 ≤ 17 from by (first | omega | (simp only [st_s] <;> omega) | assumption | omega | fail)) (show ¬ n0 = 0 from by (intro z; have := np.1 z; omega)) (show ∃ k : Nat, 1 ≤ k ∧ k < 32 ∧ (I n0).toBitVec.getLsbD k = true ∧ nz_s 16 (k : Int) x1 1 from by (obtain ⟨k, k1, k2, k3, k4, k5⟩ := nz_1 np.2 (fun z => by have := np.1 z; omega) (by omega); first | exact ⟨k, k1, k2, k3, k4 (by omega)⟩ | (rw [e_x4]; exact ⟨k, k1, k2, k3, k5 (by omega)⟩)))
    ·
      intro x4 r_x4 e_x4
      exact l_34 _ _ (show 0 ≤ 17 ∧ 17 ≤ 17 from by (first | omega | (simp only [st_s] <;> omega) | assumption | omega | fail)) (show ¬ n0 = 0 from by (intro z; have := np.1 z; omega)) (show ∃ k : Nat, 1 ≤ k ∧ k < 32 ∧ (I n0).toBitVec.getLsbD k = true ∧ nz_s 16 (k : Int) x4 17 from by (obtain ⟨k, k1, k2, k3, k4, k5⟩ := nz_1 np.2 (fun z => by have := np.1 z; omega) (by omega); first | exact ⟨k, k1, k2, k3, k4 (by omega)⟩ | (rw [e_x4]; exact ⟨k, k1, k2, k3, k5 (by omega)⟩)))
  ·
    intro x5 r_x5 e_x5
    have n5 : x1 = 0 → x5 = 0 := fun z => by (rw [e_x5, z]; decide +kernel)
    have n6 : x1 = -1 → x5 = 32 := fun z => by (rw [e_x5, z]; decide +kernel)
    have n7 : n0 ≠ 0 → x1 = 0 ∧ (I n0).toBitVec.getLsbD 0 = true := fun z => by (obtain ⟨k, k1, k2, k3⟩ := np.2 z; have nn := (nz_le ⟨k, k1⟩).2.2.2.2; rw [← show x1 = 2 ^ (⟨k, k1⟩ : Fin 32).val - 1 from k3] at nn; simp only at nn; have kz := nn.mpr (by omega); rw [kz] at k2 k3; exact ⟨by omega, k2⟩)
    exact ⟨(show 0 ≤ x5 ∧ x5 ≤ 32 from by (first | omega | (by_cases z : n0 = 0; have := n6 (np.1 z); omega; have := n5 (n7 z).1; omega) | fail)), (show ¬ n0 = 0 → x5 < 32 ∧ (I n0).toBitVec.getLsbD x5.toNat = true from by (intro z; first | (have w := n5 (n7 z).1; rw [w]; exact ⟨by omega, (n7 z).2⟩) | (rw [k5]; exact ⟨by omega, k3⟩)))⟩
set_option maxHeartbeats 1000000 in
theorem K_J13_numberOfTrailingZeros_95d88 {n0 : Int64} {σ : S0} (hT : c_T σ) : W_J13_numberOfTrailingZeros_95d88 n0 σ (fun (x : Int) => (0 ≤ x ∧ x ≤ 64) ∧ (¬ n0 = 0 → x < 64 ∧ j_b n0 x)) := by
  unfold W_J13_numberOfTrailingZeros_95d88
  intro x1 r_x1 e_x1
  refine ⟨fun c2 => ?_, fun c2 => ?_⟩
  ·
    have r3 := nz_r n0
    refine ⟨_, K_J6_numberOfTrailingZeros_0f7a4 hT (show -2147483648 ≤ x1 ∧ x1 ≤ 2147483647 from by (rw [e_x1]; exact r3)), ?_⟩
    intro x4 r_x4 hq
    obtain ⟨q3_1, q3_2⟩ := hq
    replace q3_1 : 0 ≤ x4 ∧ x4 ≤ 32 := q3_1
    replace q3_2 : ¬ x1 = 0 → x4 < 32 ∧ (I x1).toBitVec.getLsbD x4.toNat = true := q3_2
    exact ⟨(show 0 ≤ x4 ∧ x4 ≤ 64 from by (first | omega | (simp only [st_s] <;> omega) | assumption | omega | fail)), (show ¬ n0 = 0 → x4 < 64 ∧ j_b n0 x4 from by (intro z; first | (have w := q3_2 (by assumption); rw [e_x1] at w; exact ⟨by omega, nz_w (by omega) (by omega) w.2⟩) | (have x6n : ¬ x6 = 0 := fun y => z (nz_zz (by rw [← e_x1]; assumption) (by rw [← e_x6]; exact y)); have w := q7_2 x6n; rw [e_x6] at w; have v := nz_w (x := j_ushr n0 32) (k := x8) (by omega) (by omega) w.2; rw [j_b_ush (by omega) (by omega) (by omega)] at v; exact ⟨by omega, v⟩)))⟩
  ·
    intro x6 r_x6 e_x6
    have r7 := nz_r (j_ushr n0 32)
    refine ⟨_, K_J6_numberOfTrailingZeros_0f7a4 hT (show -2147483648 ≤ x6 ∧ x6 ≤ 2147483647 from by (rw [e_x6]; exact r7)), ?_⟩
    intro x8 r_x8 hq
    obtain ⟨q7_1, q7_2⟩ := hq
    replace q7_1 : 0 ≤ x8 ∧ x8 ≤ 32 := q7_1
    replace q7_2 : ¬ x6 = 0 → x8 < 32 ∧ (I x6).toBitVec.getLsbD x8.toNat = true := q7_2
    refine ⟨(⟨by (first | omega | (simp only [st_s] <;> omega) | assumption | omega | fail), by (first | omega | (simp only [st_s] <;> omega) | assumption | omega | fail)⟩ : rg (32 + x8)), ?_⟩
    exact ⟨(show 0 ≤ (32 + x8) ∧ (32 + x8) ≤ 64 from by (first | omega | (simp only [st_s] <;> omega) | assumption | omega | fail)), (show ¬ n0 = 0 → (32 + x8) < 64 ∧ j_b n0 (32 + x8) from by (intro z; first | (have w := q3_2 (by assumption); rw [e_x1] at w; exact ⟨by omega, nz_w (by omega) (by omega) w.2⟩) | (have x6n : ¬ x6 = 0 := fun y => z (nz_zz (by rw [← e_x1]; assumption) (by rw [← e_x6]; exact y)); have w := q7_2 x6n; rw [e_x6] at w; have v := nz_w (x := j_ushr n0 32) (k := x8) (by omega) (by omega) w.2; rw [j_b_ush (by omega) (by omega) (by omega)] at v; exact ⟨by omega, v⟩)))⟩
