-- pure: fronts of the model
theorem j_shr_v {x : Int64} {k : Int} (h0 : 0 ≤ k) (h1 : k < 64) : (j_shr x k).toBitVec = x.toBitVec.sshiftRight k.toNat := by
  obtain ⟨n, rfl⟩ := Int.eq_ofNat_of_zero_le h0
  have e := j_sh2 ⟨n, by omega⟩
  show x.toBitVec.sshiftRight (((I (n : Int)).toInt64 &&& 63).toBitVec.smod 64#64).toNat = x.toBitVec.sshiftRight n
  rw [e]
theorem y_sr {x : Int64} {k : Int} (h0 : 0 ≤ k) (h1 : k < 64) : (j_b x k ∧ (j_shr x k &&& 1) = 1) ∨ (¬ j_b x k ∧ (j_shr x k &&& 1) = 0) := by
  have e : (j_shr x k &&& 1).toBitVec = BitVec.setWidth 64 (BitVec.ofBool (x.toBitVec.getLsbD k.toNat)) := by
    show (j_shr x k).toBitVec &&& 1#64 = _
    rw [j_shr_v h0 h1, BitVec.and_one_eq_setWidth_ofBool_getLsbD, BitVec.getLsbD_sshiftRight, Nat.add_zero, if_pos (by omega)]
    rfl
  unfold j_b
  cases z : x.toBitVec.getLsbD k.toNat
  · rw [z] at e
    exact Or.inr ⟨by decide, Int64.toBitVec_inj.mp (e.trans (by decide))⟩
  · rw [z] at e
    exact Or.inl ⟨rfl, Int64.toBitVec_inj.mp (e.trans (by decide))⟩
theorem y_sr1 {x : Int64} {k : Int} (h0 : 0 ≤ k) (h1 : k < 64) : (j_shr x k &&& 1) = 1 ↔ j_b x k := by
  rcases y_sr (x := x) h0 h1 with ⟨a, b⟩ | ⟨a, b⟩
  · exact ⟨fun _ => a, fun _ => b⟩
  · rw [b]; exact ⟨fun q => absurd q (by decide), fun q => absurd q a⟩
theorem y_sls {x : Int64} {k n q : Int} (h0 : 0 ≤ k) (h1 : k < 64) (n0 : 0 ≤ n) (n1 : n < 64) (q0 : 0 ≤ q) (q1 : q < 64) : j_b (j_shl (j_shr x k &&& 1) n) q ↔ q = n ∧ j_b x k := by
  rcases y_sr (x := x) h0 h1 with ⟨a, b⟩ | ⟨a, b⟩
  · rw [b, j_b_one n0 n1 q0 q1]; exact ⟨fun z => ⟨z, a⟩, fun z => z.1⟩
  · rw [b, j_b_shl 0 n0 n1 q0 q1]
    exact ⟨fun z => absurd z.2 (j_b_0 _), fun z => absurd z.2 a⟩
theorem y_ne {x : Int64} : ¬ x = 0 ↔ ∃ q : Int, (0 ≤ q ∧ q < 64) ∧ j_b x q := by
  constructor
  · intro h
    obtain ⟨q, a, b, c⟩ := j_b_ex h
    exact ⟨q, ⟨a, b⟩, c⟩
  · rintro ⟨q, _, c⟩ e
    rw [e] at c
    exact j_b_0 q c
theorem y_nat {n : Nat} : ¬ (n &&& (n - 1)) = 0 ↔ ∃ p q : Nat, p < q ∧ n.testBit p = true ∧ n.testBit q = true := by
  by_cases z : n = 0
  · subst z
    exact ⟨fun h => absurd rfl h, fun ⟨p, q, _, h, _⟩ => by rw [Nat.zero_testBit] at h; exact absurd h (by decide)⟩
  · rw [Nat.and_sub_one_eq_zero_iff_isPowerOfTwo z]
    constructor
    · intro h
      have hl := Nat.testBit_log2 z
      by_cases e : ∃ j : Nat, j ≠ n.log2 ∧ n.testBit j = true
      · obtain ⟨j, hj, ht⟩ := e
        rcases Nat.lt_or_gt_of_ne hj with l | l
        · exact ⟨j, n.log2, l, ht, hl⟩
        · exact ⟨n.log2, j, l, hl, ht⟩
      · refine absurd ⟨n.log2, Nat.eq_of_testBit_eq (fun i => ?_)⟩ h
        rw [Nat.testBit_two_pow]
        by_cases y : i = n.log2
        · rw [y, hl, decide_eq_true rfl]
        · have f : n.testBit i = false := Bool.eq_false_iff.mpr (fun t => e ⟨i, y, t⟩)
          rw [f, decide_eq_false (fun w => y w.symm)]
    · rintro ⟨p, q, l, hp, hq⟩ ⟨k, e⟩
      rw [e, Nat.testBit_two_pow] at hp hq
      have a := of_decide_eq_true hp
      have b := of_decide_eq_true hq
      omega
theorem y_two {x : Int64} : ¬ (x &&& (x - 1)) = 0 ↔ ∃ p q : Int, (0 ≤ p ∧ p < q ∧ q < 64) ∧ j_b x p ∧ j_b x q := by
  have hx : x.toBitVec.toNat < 2 ^ 64 := x.toBitVec.isLt
  by_cases z : x = 0
  · subst z
    exact ⟨fun h => absurd (by decide) h, fun ⟨p, q, _, h, _⟩ => absurd h (j_b_0 p)⟩
  · have nz : x.toBitVec.toNat ≠ 0 := fun e => z (Int64.toBitVec_inj.mp (BitVec.eq_of_toNat_eq e))
    have e : (x &&& (x - 1)).toBitVec.toNat = x.toBitVec.toNat &&& (x.toBitVec.toNat - 1) := by
      show (x.toBitVec &&& (x.toBitVec - 1#64)).toNat = _
      rw [BitVec.toNat_and, BitVec.toNat_sub_of_le (by rw [BitVec.le_def]; show 1 ≤ x.toBitVec.toNat; omega)]
      rfl
    have i : ¬ (x &&& (x - 1)) = 0 ↔ ¬ (x.toBitVec.toNat &&& (x.toBitVec.toNat - 1)) = 0 := by
      rw [← e]
      exact not_congr ⟨fun h => by rw [h]; rfl, fun h => Int64.toBitVec_inj.mp (BitVec.eq_of_toNat_eq h)⟩
    rw [i, y_nat]
    constructor
    · rintro ⟨p, q, l, hp, hq⟩
      have q6 : q < 64 := by
        rcases Nat.lt_or_ge q 64 with w | w
        · exact w
        · have := Nat.testBit_lt_two_pow (Nat.lt_of_lt_of_le hx (Nat.pow_le_pow_right (by decide) w))
          rw [this] at hq; exact absurd hq (by decide)
      exact ⟨(p : Int), (q : Int), by omega, hp, hq⟩
    · rintro ⟨p, q, l, hp, hq⟩
      exact ⟨p.toNat, q.toNat, by omega, hp, hq⟩
/-- what a step adds to a front -/
def y_g1 (j sp so : Int) (row : Int → Int) (A : Int64) (s1 : Int → Int64) : Prop := (0 ≤ sp ∧ row (j - 1) = sp ∧ j_b A (j - 1)) ∨ (sp < 0 ∧ 0 ≤ so ∧ ∃ p : Int, (0 ≤ p ∧ p < 64) ∧ j_b A p ∧ j_b (s1 (61 * so + j)) p)
def y_g2 (j sp so : Int) (row : Int → Int) (A B : Int64) (s1 s2 : Int → Int64) : Prop := (0 ≤ sp ∧ row (j - 1) = sp ∧ j_b A (j - 1) ∧ j_b B (j - 1)) ∨ (sp < 0 ∧ 0 ≤ so ∧ ((∃ p : Int, (0 ≤ p ∧ p < 64) ∧ ((j_b B p ∧ j_b (s1 (61 * so + j)) p) ∨ (j_b A p ∧ j_b (s2 (61 * so + j)) p))) ∨ ∃ p o : Int, (0 ≤ p ∧ p < o ∧ o < 64) ∧ (j_b A p ∧ j_b (s1 (61 * so + j)) p) ∧ j_b A o ∧ j_b (s1 (61 * so + j)) o))
def y_gt (n j : Int) (G1 G2 : Prop) (a b a' b' : Int → Int64) : Prop := (∀ x : Int, x ≠ n → a' x = a x ∧ b' x = b x) ∧ ∀ q : Int, 0 ≤ q → q < 64 → (j_b (a' n) q ↔ j_b (a n) q ∨ (q = j ∧ G1)) ∧ (j_b (b' n) q ↔ j_b (b n) q ∨ (q = j ∧ G2))
theorem y_gt_0 {n j : Int} {G1 G2 : Prop} {a b : Int → Int64} (h : ¬ G1) (g : ¬ G2) : y_gt n j G1 G2 a b a b := ⟨fun _ _ => ⟨rfl, rfl⟩, fun q _ _ => ⟨⟨fun z => Or.inl z, fun z => z.elim id (fun w => absurd w.2 h)⟩, ⟨fun z => Or.inl z, fun z => z.elim id (fun w => absurd w.2 g)⟩⟩⟩
theorem y_gt_1 {n j : Int} {G1 G2 : Prop} {a b : Int → Int64} {y : Int64} (h : G1) (j0 : 0 ≤ j) (j1 : j < 64) (hy : ∀ q : Int, 0 ≤ q → q < 64 → (j_b y q ↔ q = j ∧ G2)) : y_gt n j G1 G2 a b (st a n (a n ||| j_shl 1 j)) (st b n (b n ||| y)) := by
  refine ⟨fun x hx => ⟨st_n _ _ hx, st_n _ _ hx⟩, fun q q0 q1 => ?_⟩
  rw [st_s, st_s, j_b_or, j_b_or, j_b_one j0 j1 q0 q1, hy q q0 q1]
  exact ⟨⟨fun z => z.elim Or.inl (fun w => Or.inr ⟨w, h⟩), fun z => z.elim Or.inl (fun w => Or.inr w.1)⟩, Iff.rfl⟩
section
variable {j sp so : Int} {row : Int → Int} {A B : Int64} {s1 s2 : Int → Int64}
theorem y_g_n (p : sp < 0) (o : so < 0) : ¬ y_g1 j sp so row A s1 ∧ ¬ y_g2 j sp so row A B s1 s2 := by
  constructor
  · rintro (⟨w, _⟩ | ⟨_, w, _⟩) <;> omega
  · rintro (⟨w, _⟩ | ⟨_, w, _⟩) <;> omega
theorem y_g_z (p : sp < 0) (z : (A &&& s1 (61 * so + j)) = 0) (hB : ∀ q : Int, 0 ≤ q → q < 64 → j_b B q → j_b A q) (hS : ∀ q : Int, 0 ≤ q → q < 64 → j_b (s2 (61 * so + j)) q → j_b (s1 (61 * so + j)) q) : ¬ y_g1 j sp so row A s1 ∧ ¬ y_g2 j sp so row A B s1 s2 := by
  have n : ∀ q : Int, 0 ≤ q → q < 64 → j_b A q → ¬ j_b (s1 (61 * so + j)) q := fun q a b c d => (y_ne.mpr ⟨q, ⟨a, b⟩, (j_b_and _ _ _).mpr ⟨c, d⟩⟩) z
  constructor
  · rintro (⟨w, _⟩ | ⟨_, _, q, hq, h1, h2⟩)
    · omega
    · exact n q hq.1 hq.2 h1 h2
  · rintro (⟨w, _⟩ | ⟨_, _, ⟨q, hq, ⟨h1, h2⟩ | ⟨h1, h2⟩⟩ | ⟨q, o, hq, ⟨h1, h2⟩, h3, h4⟩⟩)
    · omega
    · exact n q hq.1 hq.2 (hB q hq.1 hq.2 h1) h2
    · exact n q hq.1 hq.2 h1 (hS q hq.1 hq.2 h2)
    · exact n q hq.1 (by omega) h1 h2
theorem y_g_c (p : 0 ≤ sp) (z : ¬ row (j - 1) = sp ∨ ¬ j_b A (j - 1)) : ¬ y_g1 j sp so row A s1 ∧ ¬ y_g2 j sp so row A B s1 s2 := by
  constructor
  · rintro (⟨_, w, v⟩ | ⟨w, _⟩)
    · exact z.elim (fun q => q w) (fun q => q v)
    · omega
  · rintro (⟨_, w, v, _⟩ | ⟨w, _⟩)
    · exact z.elim (fun q => q w) (fun q => q v)
    · omega
theorem y_g_y (p : sp < 0) (o : 0 ≤ so) (z : ¬ (A &&& s1 (61 * so + j)) = 0) : y_g1 j sp so row A s1 := by
  obtain ⟨q, hq, h⟩ := y_ne.mp z
  exact Or.inr ⟨p, o, q, hq, (j_b_and _ _ _).mp h⟩
theorem y_g_2a (p : sp < 0) (o : 0 ≤ so) (z : ¬ ((A &&& s1 (61 * so + j)) &&& ((A &&& s1 (61 * so + j)) - 1)) = 0) : y_g2 j sp so row A B s1 s2 := by
  obtain ⟨q, r, hq, h, g⟩ := y_two.mp z
  exact Or.inr ⟨p, o, Or.inr ⟨q, r, hq, (j_b_and _ _ _).mp h, (j_b_and _ _ _).mp g⟩⟩
theorem y_g_2b (p : sp < 0) (o : 0 ≤ so) (z : ¬ (A &&& s2 (61 * so + j)) = 0) : y_g2 j sp so row A B s1 s2 := by
  obtain ⟨q, hq, h⟩ := y_ne.mp z
  exact Or.inr ⟨p, o, Or.inl ⟨q, hq, Or.inr ((j_b_and _ _ _).mp h)⟩⟩
theorem y_g_2c (p : sp < 0) (o : 0 ≤ so) (z : ¬ (B &&& s1 (61 * so + j)) = 0) : y_g2 j sp so row A B s1 s2 := by
  obtain ⟨q, hq, h⟩ := y_ne.mp z
  exact Or.inr ⟨p, o, Or.inl ⟨q, hq, Or.inl ((j_b_and _ _ _).mp h)⟩⟩
theorem y_g_2n (p : sp < 0) (a : ((A &&& s1 (61 * so + j)) &&& ((A &&& s1 (61 * so + j)) - 1)) = 0) (b : (A &&& s2 (61 * so + j)) = 0) (c : (B &&& s1 (61 * so + j)) = 0) : ¬ y_g2 j sp so row A B s1 s2 := by
  rintro (⟨w, _⟩ | ⟨_, _, ⟨q, hq, ⟨h1, h2⟩ | ⟨h1, h2⟩⟩ | ⟨q, o, hq, ⟨h1, h2⟩, h3, h4⟩⟩)
  · omega
  · exact (y_ne.mpr ⟨q, hq, (j_b_and _ _ _).mpr ⟨h1, h2⟩⟩) c
  · exact (y_ne.mpr ⟨q, hq, (j_b_and _ _ _).mpr ⟨h1, h2⟩⟩) b
  · exact (y_two.mpr ⟨q, o, hq, (j_b_and _ _ _).mpr ⟨h1, h2⟩, (j_b_and _ _ _).mpr ⟨h3, h4⟩⟩) a
theorem y_g_k {G : Prop} (g : G) (j0 : 0 ≤ j) (j1 : j < 64) : ∀ q : Int, 0 ≤ q → q < 64 → (j_b (j_shl 1 j) q ↔ q = j ∧ G) := fun q a b => (j_b_one j0 j1 a b).trans ⟨fun z => ⟨z, g⟩, fun z => z.1⟩
theorem y_g_l {G : Prop} (g : ¬ G) : ∀ q : Int, 0 ≤ q → q < 64 → (j_b 0 q ↔ q = j ∧ G) := fun q _ _ => ⟨fun z => absurd z (j_b_0 q), fun z => absurd z.2 g⟩
theorem y_g_m (p : 0 ≤ sp) (r : row (j - 1) = sp) (a : j_b A (j - 1)) (j1 : 1 ≤ j) (j2 : j < 64) : ∀ q : Int, 0 ≤ q → q < 64 → (j_b (j_shl (j_shr B (j - 1) &&& 1) j) q ↔ q = j ∧ y_g2 j sp so row A B s1 s2) := fun q q0 q1 => (y_sls (by omega) (by omega) (by omega) j2 q0 q1).trans ⟨fun z => ⟨z.1, Or.inl ⟨p, r, a, z.2⟩⟩, fun z => ⟨z.1, z.2.elim (fun w => w.2.2.2) (fun w => by have := w.1; omega)⟩⟩
end
set_option maxHeartbeats 4000000 in
theorem K_X13_goTo {n1 : Int} {n2 : Int} {σ : S0} (hT : m_T σ) (p1 : 1 ≤ n1) (p2 : n1 < 30002) (p3 : 0 ≤ σ.2.1 78 n1) (p4 : σ.2.1 77 n1 < 0 → σ.2.1 77 n1 ≤ -2) (p5 : 1 ≤ n2 ∧ n2 ≤ 59) (p6 : ∀ q : Int, 0 ≤ q → q < 64 → j_b (σ.2.2 6 (σ.2.1 78 n1)) q → j_b (σ.2.2 5 (σ.2.1 78 n1)) q) (p7 : σ.2.1 77 n1 < 0 → 0 ≤ (σ.2.1 71 (-2 - σ.2.1 77 n1)) → ∀ q : Int, 0 ≤ q → q < 64 → j_b (σ.2.2 4 (61 * (σ.2.1 71 (-2 - σ.2.1 77 n1)) + n2)) q → j_b (σ.2.2 3 (61 * (σ.2.1 71 (-2 - σ.2.1 77 n1)) + n2)) q) : W_X13_goTo n1 n2 σ (fun (τ : S0) => (m_T τ) ∧ (y_gt n1 n2 (y_g1 n2 (σ.2.1 77 n1) (σ.2.1 71 (-2 - σ.2.1 77 n1)) (σ.2.1 72) (σ.2.2 5 (σ.2.1 78 n1)) (σ.2.2 3)) (y_g2 n2 (σ.2.1 77 n1) (σ.2.1 71 (-2 - σ.2.1 77 n1)) (σ.2.1 72) (σ.2.2 5 (σ.2.1 78 n1)) (σ.2.2 6 (σ.2.1 78 n1)) (σ.2.2 3) (σ.2.2 4)) (σ.2.2 5) (σ.2.2 6) (τ.2.2 5) (τ.2.2 6))) := by
  have A71 : ∀ j, (-1) ≤ σ.2.1 71 j ∧ σ.2.1 71 j ≤ 99 := fun j => hT.2 71 j
  have A72 : ∀ j, 0 ≤ σ.2.1 72 j ∧ σ.2.1 72 j ≤ 999 := fun j => hT.2 72 j
  have A77 : ∀ j, (-1001) ≤ σ.2.1 77 j ∧ σ.2.1 77 j ≤ 999 := fun j => hT.2 77 j
  have A78 : ∀ j, (-1) ≤ σ.2.1 78 j ∧ σ.2.1 78 j ≤ 30001 := fun j => hT.2 78 j
  have G71 : σ.2.1 71 = σ.2.1 71 := rfl
  have G72 : σ.2.1 72 = σ.2.1 72 := rfl
  have G77 : σ.2.1 77 = σ.2.1 77 := rfl
  have G78 : σ.2.1 78 = σ.2.1 78 := rfl
  intro P219 P240 h219 h240
  refine ⟨(show 0 ≤ n1 ∧ n1 < 30002 from by (first | omega | (simp only [st_s] <;> omega) | assumption | omega | fail)), ?_⟩
  intro x2 r_x2 e_x2
  have b_x2 : (-1) ≤ x2 ∧ x2 ≤ 30001 := by rw [e_x2]; exact hT.2 78 _
  intro x3 r_x3 e_x3
  have b_x3 : (-1001) ≤ x3 ∧ x3 ≤ 999 := by rw [e_x3]; exact hT.2 77 _
  refine ⟨(show 0 ≤ x2 ∧ x2 < 30002 from by (first | omega | (simp only [st_s] <;> omega) | assumption | omega | fail)), ?_⟩
  intro x5 e_x5
  intro x6 e_x6
  refine ⟨fun c7 => ?_, fun c7 => ?_⟩
  ·
    refine ⟨(show 0 ≤ ((-2) - x3) ∧ ((-2) - x3) < 1001 from by (first | omega | (simp only [st_s] <;> omega) | assumption | omega | fail)), ?_⟩
    intro x9 r_x9 e_x9
    have b_x9 : (-1) ≤ x9 ∧ x9 ≤ 99 := by rw [e_x9]; exact hT.2 71 _
    refine ⟨fun c10 => ?_, fun c10 => ?_⟩
    ·
      exact ⟨hT, (show y_gt n1 n2 (y_g1 n2 (σ.2.1 77 n1) (σ.2.1 71 (-2 - σ.2.1 77 n1)) (σ.2.1 72) (σ.2.2 5 (σ.2.1 78 n1)) (σ.2.2 3)) (y_g2 n2 (σ.2.1 77 n1) (σ.2.1 71 (-2 - σ.2.1 77 n1)) (σ.2.1 72) (σ.2.2 5 (σ.2.1 78 n1)) (σ.2.2 6 (σ.2.1 78 n1)) (σ.2.2 3) (σ.2.2 4)) (σ.2.2 5) (σ.2.2 6) (σ.2.2 5) (σ.2.2 6) from by (first | (exfalso; omega) | (rw [← e_x3, ← e_x2, ← e_x5, ← e_x6]; rw [← e_x9]; exact y_gt_0 (y_g_n (B := x6) (s2 := σ.2.2 4) (by omega) (by omega)).1 (y_g_n (by omega) (by omega)).2)   | (rw [← e_x3, ← e_x2, ← e_x5, ← e_x6]; rw [← e_x9]; exact y_gt_0 (y_g_z (s2 := σ.2.2 4) (by omega) (by rw [← e_x12]; assumption) p6 (p7 (by omega) (by omega))).1 (y_g_z (by omega) (by rw [← e_x12]; assumption) p6 (p7 (by omega) (by omega))).2)   | (rw [← e_x3, ← e_x2, ← e_x5, ← e_x6]; exact y_gt_0 (y_g_c (B := x6) (s2 := σ.2.2 4) (by omega) (Or.inl (by omega))).1 (y_g_c (by omega) (Or.inl (by omega))).2)   | (rw [← e_x3, ← e_x2, ← e_x5, ← e_x6]; exact y_gt_0 (y_g_c (B := x6) (s2 := σ.2.2 4) (by omega) (Or.inr (fun q => absurd ((y_sr1 (by omega) (by omega)).mpr q) (by assumption)))).1 (y_g_c (by omega) (Or.inr (fun q => absurd ((y_sr1 (by omega) (by omega)).mpr q) (by assumption)))).2)   | (rw [e_x28, e_τ_219]; exact UP 0 (y_g_l (y_g_2n (by omega) (by rw [← e_x14]; assumption) (by rw [← e_x17]; assumption) (by rw [← e_x19]; assumption))))   | (rw [e_x28, e_τ_219]; exact UP (j_shl 1 n2) (y_g_k (y_g_2a (by omega) (by omega) (by rw [← e_x14]; assumption)) (by omega) (by omega)))   | (rw [e_x28, e_τ_219]; exact UP (j_shl 1 n2) (y_g_k (y_g_2b (by omega) (by omega) (by rw [← e_x17]; assumption)) (by omega) (by omega)))   | (rw [e_x28, e_τ_219]; exact UP (j_shl 1 n2) (y_g_k (y_g_2c (by omega) (by omega) (by rw [← e_x19]; assumption)) (by omega) (by omega)))   | (rw [← e_x3, ← e_x2, ← e_x5, ← e_x6]; rw [e_x25, e_x26]; exact y_gt_1 (Or.inl ⟨by omega, by omega, (y_sr1 (by omega) (by omega)).mp (by assumption)⟩) (by omega) (by omega) (y_g_m (by omega) (by omega) ((y_sr1 (by omega) (by omega)).mp (by assumption)) (by omega) (by omega))) | fail))⟩
    ·
      refine ⟨(show 0 ≤ ((61 * x9) + n2) ∧ ((61 * x9) + n2) < 6200 from by (first | omega | (simp only [st_s] <;> omega) | assumption | omega | fail)), ?_⟩
      intro x12 e_x12
      rw [← e_x3, ← e_x9] at p7
      rw [← e_x2, ← e_x5, ← e_x6] at p6
      refine ⟨fun c13 => ?_, fun c13 => ?_⟩
      ·
        intro x14 e_x14
        intro x15 e_x15
        have UP : ∀ k3 : Int64, (∀ q : Int, 0 ≤ q → q < 64 → (j_b k3 q ↔ q = n2 ∧ y_g2 n2 x3 x9 (σ.2.1 72) x5 x6 (σ.2.2 3) (σ.2.2 4))) → y_gt n1 n2 (y_g1 n2 (σ.2.1 77 n1) (σ.2.1 71 (-2 - σ.2.1 77 n1)) (σ.2.1 72) (σ.2.2 5 (σ.2.1 78 n1)) (σ.2.2 3)) (y_g2 n2 (σ.2.1 77 n1) (σ.2.1 71 (-2 - σ.2.1 77 n1)) (σ.2.1 72) (σ.2.2 5 (σ.2.1 78 n1)) (σ.2.2 6 (σ.2.1 78 n1)) (σ.2.2 3) (σ.2.2 4)) (σ.2.2 5) (σ.2.2 6) (st (σ.2.2 5) n1 (x15 ||| j_shl 1 n2)) (st (σ.2.2 6) n1 (σ.2.2 6 n1 ||| k3)) := fun k3 hk => by (rw [← e_x3, ← e_x2, ← e_x5, ← e_x6]; rw [← e_x9]; rw [e_x15]; exact y_gt_1 (y_g_y (by omega) (by omega) (by rw [← e_x12]; assumption)) (by omega) (by omega) hk)
        replace hT := mT_b (k := 5) (j := n1) (x := (x15 ||| (j_shl 1 n2))) hT
        refine ⟨fun c16 => ?_, fun c16 => ?_⟩
        ·
          obtain ⟨τ_219, e_τ_219⟩ : ∃ z : S0, z = s_b σ 5 n1 (x15 ||| (j_shl 1 n2)) := ⟨_, rfl⟩
          rw [← e_τ_219]
          replace hT : m_T τ_219 := by rw [e_τ_219]; exact hT
          have g71_τ_219 : τ_219.2.1 71 = σ.2.1 71 := by rw [e_τ_219]; rfl
          have g72_τ_219 : τ_219.2.1 72 = σ.2.1 72 := by rw [e_τ_219]; rfl
          have g77_τ_219 : τ_219.2.1 77 = σ.2.1 77 := by rw [e_τ_219]; rfl
          have g78_τ_219 : τ_219.2.1 78 = σ.2.1 78 := by rw [e_τ_219]; rfl
          have G71 : τ_219.2.1 71 = σ.2.1 71 := (g71_τ_219).trans G71
          have G72 : τ_219.2.1 72 = σ.2.1 72 := (g72_τ_219).trans G72
          have G77 : τ_219.2.1 77 = σ.2.1 77 := (g77_τ_219).trans G77
          have G78 : τ_219.2.1 78 = σ.2.1 78 := (g78_τ_219).trans G78
          have A71 : ∀ j, (-1) ≤ τ_219.2.1 71 j ∧ τ_219.2.1 71 j ≤ 99 := fun j => hT.2 71 j
          have A72 : ∀ j, 0 ≤ τ_219.2.1 72 j ∧ τ_219.2.1 72 j ≤ 999 := fun j => hT.2 72 j
          have A77 : ∀ j, (-1001) ≤ τ_219.2.1 77 j ∧ τ_219.2.1 77 j ≤ 999 := fun j => hT.2 77 j
          have A78 : ∀ j, (-1) ≤ τ_219.2.1 78 j ∧ τ_219.2.1 78 j ≤ 30001 := fun j => hT.2 78 j
          refine h219 _ _ _ _ ?_
          refine ⟨(show 0 ≤ n1 ∧ n1 < 30002 from by (first | omega | (simp only [st_s] <;> omega) | assumption | omega | fail)), ?_⟩
          intro x28 e_x28
          refine ⟨fun c29 => ?_, fun c29 => ?_⟩
          ·
            refine h240 _ _ _ _ ?_
            refine ⟨(show 0 ≤ n1 ∧ n1 < 30002 from by (first | omega | (simp only [st_s] <;> omega) | assumption | omega | fail)), ?_⟩
            replace hT := mT_b (k := 6) (j := n1) (x := (x28 ||| 0)) hT
            exact ⟨hT, (show y_gt n1 n2 (y_g1 n2 (σ.2.1 77 n1) (σ.2.1 71 (-2 - σ.2.1 77 n1)) (σ.2.1 72) (σ.2.2 5 (σ.2.1 78 n1)) (σ.2.2 3)) (y_g2 n2 (σ.2.1 77 n1) (σ.2.1 71 (-2 - σ.2.1 77 n1)) (σ.2.1 72) (σ.2.2 5 (σ.2.1 78 n1)) (σ.2.2 6 (σ.2.1 78 n1)) (σ.2.2 3) (σ.2.2 4)) (σ.2.2 5) (σ.2.2 6) (τ_219.2.2 5) ((st (τ_219.2.2 6) n1 (x28 ||| 0))) from by (first | (exfalso; omega) | (rw [← e_x3, ← e_x2, ← e_x5, ← e_x6]; rw [← e_x9]; exact y_gt_0 (y_g_n (B := x6) (s2 := σ.2.2 4) (by omega) (by omega)).1 (y_g_n (by omega) (by omega)).2)   | (rw [← e_x3, ← e_x2, ← e_x5, ← e_x6]; rw [← e_x9]; exact y_gt_0 (y_g_z (s2 := σ.2.2 4) (by omega) (by rw [← e_x12]; assumption) p6 (p7 (by omega) (by omega))).1 (y_g_z (by omega) (by rw [← e_x12]; assumption) p6 (p7 (by omega) (by omega))).2)   | (rw [← e_x3, ← e_x2, ← e_x5, ← e_x6]; exact y_gt_0 (y_g_c (B := x6) (s2 := σ.2.2 4) (by omega) (Or.inl (by omega))).1 (y_g_c (by omega) (Or.inl (by omega))).2)   | (rw [← e_x3, ← e_x2, ← e_x5, ← e_x6]; exact y_gt_0 (y_g_c (B := x6) (s2 := σ.2.2 4) (by omega) (Or.inr (fun q => absurd ((y_sr1 (by omega) (by omega)).mpr q) (by assumption)))).1 (y_g_c (by omega) (Or.inr (fun q => absurd ((y_sr1 (by omega) (by omega)).mpr q) (by assumption)))).2)   | (rw [e_x28, e_τ_219]; exact UP 0 (y_g_l (y_g_2n (by omega) (by rw [← e_x14]; assumption) (by rw [← e_x17]; assumption) (by rw [← e_x19]; assumption))))   | (rw [e_x28, e_τ_219]; exact UP (j_shl 1 n2) (y_g_k (y_g_2a (by omega) (by omega) (by rw [← e_x14]; assumption)) (by omega) (by omega)))   | (rw [e_x28, e_τ_219]; exact UP (j_shl 1 n2) (y_g_k (y_g_2b (by omega) (by omega) (by rw [← e_x17]; assumption)) (by omega) (by omega)))   | (rw [e_x28, e_τ_219]; exact UP (j_shl 1 n2) (y_g_k (y_g_2c (by omega) (by omega) (by rw [← e_x19]; assumption)) (by omega) (by omega)))   | (rw [← e_x3, ← e_x2, ← e_x5, ← e_x6]; rw [e_x25, e_x26]; exact y_gt_1 (Or.inl ⟨by omega, by omega, (y_sr1 (by omega) (by omega)).mp (by assumption)⟩) (by omega) (by omega) (y_g_m (by omega) (by omega) ((y_sr1 (by omega) (by omega)).mp (by assumption)) (by omega) (by omega))) | fail))⟩
          ·
            refine h240 _ _ _ _ ?_
            refine ⟨(show 0 ≤ n1 ∧ n1 < 30002 from by (first | omega | (simp only [st_s] <;> omega) | assumption | omega | fail)), ?_⟩
            replace hT := mT_b (k := 6) (j := n1) (x := (x28 ||| (j_shl 1 n2))) hT
            exact ⟨hT, (show y_gt n1 n2 (y_g1 n2 (σ.2.1 77 n1) (σ.2.1 71 (-2 - σ.2.1 77 n1)) (σ.2.1 72) (σ.2.2 5 (σ.2.1 78 n1)) (σ.2.2 3)) (y_g2 n2 (σ.2.1 77 n1) (σ.2.1 71 (-2 - σ.2.1 77 n1)) (σ.2.1 72) (σ.2.2 5 (σ.2.1 78 n1)) (σ.2.2 6 (σ.2.1 78 n1)) (σ.2.2 3) (σ.2.2 4)) (σ.2.2 5) (σ.2.2 6) (τ_219.2.2 5) ((st (τ_219.2.2 6) n1 (x28 ||| (j_shl 1 n2)))) from by (first | (exfalso; omega) | (rw [← e_x3, ← e_x2, ← e_x5, ← e_x6]; rw [← e_x9]; exact y_gt_0 (y_g_n (B := x6) (s2 := σ.2.2 4) (by omega) (by omega)).1 (y_g_n (by omega) (by omega)).2)   | (rw [← e_x3, ← e_x2, ← e_x5, ← e_x6]; rw [← e_x9]; exact y_gt_0 (y_g_z (s2 := σ.2.2 4) (by omega) (by rw [← e_x12]; assumption) p6 (p7 (by omega) (by omega))).1 (y_g_z (by omega) (by rw [← e_x12]; assumption) p6 (p7 (by omega) (by omega))).2)   | (rw [← e_x3, ← e_x2, ← e_x5, ← e_x6]; exact y_gt_0 (y_g_c (B := x6) (s2 := σ.2.2 4) (by omega) (Or.inl (by omega))).1 (y_g_c (by omega) (Or.inl (by omega))).2)   | (rw [← e_x3, ← e_x2, ← e_x5, ← e_x6]; exact y_gt_0 (y_g_c (B := x6) (s2 := σ.2.2 4) (by omega) (Or.inr (fun q => absurd ((y_sr1 (by omega) (by omega)).mpr q) (by assumption)))).1 (y_g_c (by omega) (Or.inr (fun q => absurd ((y_sr1 (by omega) (by omega)).mpr q) (by assumption)))).2)   | (rw [e_x28, e_τ_219]; exact UP 0 (y_g_l (y_g_2n (by omega) (by rw [← e_x14]; assumption) (by rw [← e_x17]; assumption) (by rw [← e_x19]; assumption))))   | (rw [e_x28, e_τ_219]; exact UP (j_shl 1 n2) (y_g_k (y_g_2a (by omega) (by omega) (by rw [← e_x14]; assumption)) (by omega) (by omega)))   | (rw [e_x28, e_τ_219]; exact UP (j_shl 1 n2) (y_g_k (y_g_2b (by omega) (by omega) (by rw [← e_x17]; assumption)) (by omega) (by omega)))   | (rw [e_x28, e_τ_219]; exact UP (j_shl 1 n2) (y_g_k (y_g_2c (by omega) (by omega) (by rw [← e_x19]; assumption)) (by omega) (by omega)))   | (rw [← e_x3, ← e_x2, ← e_x5, ← e_x6]; rw [e_x25, e_x26]; exact y_gt_1 (Or.inl ⟨by omega, by omega, (y_sr1 (by omega) (by omega)).mp (by assumption)⟩) (by omega) (by omega) (y_g_m (by omega) (by omega) ((y_sr1 (by omega) (by omega)).mp (by assumption)) (by omega) (by omega))) | fail))⟩
        ·
          intro x17 e_x17
          refine ⟨fun c18 => ?_, fun c18 => ?_⟩
          ·
            obtain ⟨τ_219, e_τ_219⟩ : ∃ z : S0, z = s_b σ 5 n1 (x15 ||| (j_shl 1 n2)) := ⟨_, rfl⟩
            rw [← e_τ_219]
            replace hT : m_T τ_219 := by rw [e_τ_219]; exact hT
            have g71_τ_219 : τ_219.2.1 71 = σ.2.1 71 := by rw [e_τ_219]; rfl
            have g72_τ_219 : τ_219.2.1 72 = σ.2.1 72 := by rw [e_τ_219]; rfl
            have g77_τ_219 : τ_219.2.1 77 = σ.2.1 77 := by rw [e_τ_219]; rfl
            have g78_τ_219 : τ_219.2.1 78 = σ.2.1 78 := by rw [e_τ_219]; rfl
            have G71 : τ_219.2.1 71 = σ.2.1 71 := (g71_τ_219).trans G71
            have G72 : τ_219.2.1 72 = σ.2.1 72 := (g72_τ_219).trans G72
            have G77 : τ_219.2.1 77 = σ.2.1 77 := (g77_τ_219).trans G77
            have G78 : τ_219.2.1 78 = σ.2.1 78 := (g78_τ_219).trans G78
            have A71 : ∀ j, (-1) ≤ τ_219.2.1 71 j ∧ τ_219.2.1 71 j ≤ 99 := fun j => hT.2 71 j
            have A72 : ∀ j, 0 ≤ τ_219.2.1 72 j ∧ τ_219.2.1 72 j ≤ 999 := fun j => hT.2 72 j
            have A77 : ∀ j, (-1001) ≤ τ_219.2.1 77 j ∧ τ_219.2.1 77 j ≤ 999 := fun j => hT.2 77 j
            have A78 : ∀ j, (-1) ≤ τ_219.2.1 78 j ∧ τ_219.2.1 78 j ≤ 30001 := fun j => hT.2 78 j
            refine h219 _ _ _ _ ?_
            refine ⟨(show 0 ≤ n1 ∧ n1 < 30002 from by (first | omega | (simp only [st_s] <;> omega) | assumption | omega | fail)), ?_⟩
            intro x28 e_x28
            refine ⟨fun c29 => ?_, fun c29 => ?_⟩
            ·
              refine h240 _ _ _ _ ?_
              refine ⟨(show 0 ≤ n1 ∧ n1 < 30002 from by (first | omega | (simp only [st_s] <;> omega) | assumption | omega | fail)), ?_⟩
              replace hT := mT_b (k := 6) (j := n1) (x := (x28 ||| 0)) hT
              exact ⟨hT, (show y_gt n1 n2 (y_g1 n2 (σ.2.1 77 n1) (σ.2.1 71 (-2 - σ.2.1 77 n1)) (σ.2.1 72) (σ.2.2 5 (σ.2.1 78 n1)) (σ.2.2 3)) (y_g2 n2 (σ.2.1 77 n1) (σ.2.1 71 (-2 - σ.2.1 77 n1)) (σ.2.1 72) (σ.2.2 5 (σ.2.1 78 n1)) (σ.2.2 6 (σ.2.1 78 n1)) (σ.2.2 3) (σ.2.2 4)) (σ.2.2 5) (σ.2.2 6) (τ_219.2.2 5) ((st (τ_219.2.2 6) n1 (x28 ||| 0))) from by (first | (exfalso; omega) | (rw [← e_x3, ← e_x2, ← e_x5, ← e_x6]; rw [← e_x9]; exact y_gt_0 (y_g_n (B := x6) (s2 := σ.2.2 4) (by omega) (by omega)).1 (y_g_n (by omega) (by omega)).2)   | (rw [← e_x3, ← e_x2, ← e_x5, ← e_x6]; rw [← e_x9]; exact y_gt_0 (y_g_z (s2 := σ.2.2 4) (by omega) (by rw [← e_x12]; assumption) p6 (p7 (by omega) (by omega))).1 (y_g_z (by omega) (by rw [← e_x12]; assumption) p6 (p7 (by omega) (by omega))).2)   | (rw [← e_x3, ← e_x2, ← e_x5, ← e_x6]; exact y_gt_0 (y_g_c (B := x6) (s2 := σ.2.2 4) (by omega) (Or.inl (by omega))).1 (y_g_c (by omega) (Or.inl (by omega))).2)   | (rw [← e_x3, ← e_x2, ← e_x5, ← e_x6]; exact y_gt_0 (y_g_c (B := x6) (s2 := σ.2.2 4) (by omega) (Or.inr (fun q => absurd ((y_sr1 (by omega) (by omega)).mpr q) (by assumption)))).1 (y_g_c (by omega) (Or.inr (fun q => absurd ((y_sr1 (by omega) (by omega)).mpr q) (by assumption)))).2)   | (rw [e_x28, e_τ_219]; exact UP 0 (y_g_l (y_g_2n (by omega) (by rw [← e_x14]; assumption) (by rw [← e_x17]; assumption) (by rw [← e_x19]; assumption))))   | (rw [e_x28, e_τ_219]; exact UP (j_shl 1 n2) (y_g_k (y_g_2a (by omega) (by omega) (by rw [← e_x14]; assumption)) (by omega) (by omega)))   | (rw [e_x28, e_τ_219]; exact UP (j_shl 1 n2) (y_g_k (y_g_2b (by omega) (by omega) (by rw [← e_x17]; assumption)) (by omega) (by omega)))   | (rw [e_x28, e_τ_219]; exact UP (j_shl 1 n2) (y_g_k (y_g_2c (by omega) (by omega) (by rw [← e_x19]; assumption)) (by omega) (by omega)))   | (rw [← e_x3, ← e_x2, ← e_x5, ← e_x6]; rw [e_x25, e_x26]; exact y_gt_1 (Or.inl ⟨by omega, by omega, (y_sr1 (by omega) (by omega)).mp (by assumption)⟩) (by omega) (by omega) (y_g_m (by omega) (by omega) ((y_sr1 (by omega) (by omega)).mp (by assumption)) (by omega) (by omega))) | fail))⟩
            ·
              refine h240 _ _ _ _ ?_
              refine ⟨(show 0 ≤ n1 ∧ n1 < 30002 from by (first | omega | (simp only [st_s] <;> omega) | assumption | omega | fail)), ?_⟩
              replace hT := mT_b (k := 6) (j := n1) (x := (x28 ||| (j_shl 1 n2))) hT
              exact ⟨hT, (show y_gt n1 n2 (y_g1 n2 (σ.2.1 77 n1) (σ.2.1 71 (-2 - σ.2.1 77 n1)) (σ.2.1 72) (σ.2.2 5 (σ.2.1 78 n1)) (σ.2.2 3)) (y_g2 n2 (σ.2.1 77 n1) (σ.2.1 71 (-2 - σ.2.1 77 n1)) (σ.2.1 72) (σ.2.2 5 (σ.2.1 78 n1)) (σ.2.2 6 (σ.2.1 78 n1)) (σ.2.2 3) (σ.2.2 4)) (σ.2.2 5) (σ.2.2 6) (τ_219.2.2 5) ((st (τ_219.2.2 6) n1 (x28 ||| (j_shl 1 n2)))) from by (first | (exfalso; omega) | (rw [← e_x3, ← e_x2, ← e_x5, ← e_x6]; rw [← e_x9]; exact y_gt_0 (y_g_n (B := x6) (s2 := σ.2.2 4) (by omega) (by omega)).1 (y_g_n (by omega) (by omega)).2)   | (rw [← e_x3, ← e_x2, ← e_x5, ← e_x6]; rw [← e_x9]; exact y_gt_0 (y_g_z (s2 := σ.2.2 4) (by omega) (by rw [← e_x12]; assumption) p6 (p7 (by omega) (by omega))).1 (y_g_z (by omega) (by rw [← e_x12]; assumption) p6 (p7 (by omega) (by omega))).2)   | (rw [← e_x3, ← e_x2, ← e_x5, ← e_x6]; exact y_gt_0 (y_g_c (B := x6) (s2 := σ.2.2 4) (by omega) (Or.inl (by omega))).1 (y_g_c (by omega) (Or.inl (by omega))).2)   | (rw [← e_x3, ← e_x2, ← e_x5, ← e_x6]; exact y_gt_0 (y_g_c (B := x6) (s2 := σ.2.2 4) (by omega) (Or.inr (fun q => absurd ((y_sr1 (by omega) (by omega)).mpr q) (by assumption)))).1 (y_g_c (by omega) (Or.inr (fun q => absurd ((y_sr1 (by omega) (by omega)).mpr q) (by assumption)))).2)   | (rw [e_x28, e_τ_219]; exact UP 0 (y_g_l (y_g_2n (by omega) (by rw [← e_x14]; assumption) (by rw [← e_x17]; assumption) (by rw [← e_x19]; assumption))))   | (rw [e_x28, e_τ_219]; exact UP (j_shl 1 n2) (y_g_k (y_g_2a (by omega) (by omega) (by rw [← e_x14]; assumption)) (by omega) (by omega)))   | (rw [e_x28, e_τ_219]; exact UP (j_shl 1 n2) (y_g_k (y_g_2b (by omega) (by omega) (by rw [← e_x17]; assumption)) (by omega) (by omega)))   | (rw [e_x28, e_τ_219]; exact UP (j_shl 1 n2) (y_g_k (y_g_2c (by omega) (by omega) (by rw [← e_x19]; assumption)) (by omega) (by omega)))   | (rw [← e_x3, ← e_x2, ← e_x5, ← e_x6]; rw [e_x25, e_x26]; exact y_gt_1 (Or.inl ⟨by omega, by omega, (y_sr1 (by omega) (by omega)).mp (by assumption)⟩) (by omega) (by omega) (y_g_m (by omega) (by omega) ((y_sr1 (by omega) (by omega)).mp (by assumption)) (by omega) (by omega))) | fail))⟩
          ·
            intro x19 e_x19
            refine ⟨fun c20 => ?_, fun c20 => ?_⟩
            ·
              obtain ⟨τ_219, e_τ_219⟩ : ∃ z : S0, z = s_b σ 5 n1 (x15 ||| (j_shl 1 n2)) := ⟨_, rfl⟩
              rw [← e_τ_219]
              replace hT : m_T τ_219 := by rw [e_τ_219]; exact hT
              have g71_τ_219 : τ_219.2.1 71 = σ.2.1 71 := by rw [e_τ_219]; rfl
              have g72_τ_219 : τ_219.2.1 72 = σ.2.1 72 := by rw [e_τ_219]; rfl
              have g77_τ_219 : τ_219.2.1 77 = σ.2.1 77 := by rw [e_τ_219]; rfl
              have g78_τ_219 : τ_219.2.1 78 = σ.2.1 78 := by rw [e_τ_219]; rfl
              have G71 : τ_219.2.1 71 = σ.2.1 71 := (g71_τ_219).trans G71
              have G72 : τ_219.2.1 72 = σ.2.1 72 := (g72_τ_219).trans G72
              have G77 : τ_219.2.1 77 = σ.2.1 77 := (g77_τ_219).trans G77
              have G78 : τ_219.2.1 78 = σ.2.1 78 := (g78_τ_219).trans G78
              have A71 : ∀ j, (-1) ≤ τ_219.2.1 71 j ∧ τ_219.2.1 71 j ≤ 99 := fun j => hT.2 71 j
              have A72 : ∀ j, 0 ≤ τ_219.2.1 72 j ∧ τ_219.2.1 72 j ≤ 999 := fun j => hT.2 72 j
              have A77 : ∀ j, (-1001) ≤ τ_219.2.1 77 j ∧ τ_219.2.1 77 j ≤ 999 := fun j => hT.2 77 j
              have A78 : ∀ j, (-1) ≤ τ_219.2.1 78 j ∧ τ_219.2.1 78 j ≤ 30001 := fun j => hT.2 78 j
              refine h219 _ _ _ _ ?_
              refine ⟨(show 0 ≤ n1 ∧ n1 < 30002 from by (first | omega | (simp only [st_s] <;> omega) | assumption | omega | fail)), ?_⟩
              intro x28 e_x28
              refine ⟨fun c29 => ?_, fun c29 => ?_⟩
              ·
                refine h240 _ _ _ _ ?_
                refine ⟨(show 0 ≤ n1 ∧ n1 < 30002 from by (first | omega | (simp only [st_s] <;> omega) | assumption | omega | fail)), ?_⟩
                replace hT := mT_b (k := 6) (j := n1) (x := (x28 ||| 0)) hT
                exact ⟨hT, (show y_gt n1 n2 (y_g1 n2 (σ.2.1 77 n1) (σ.2.1 71 (-2 - σ.2.1 77 n1)) (σ.2.1 72) (σ.2.2 5 (σ.2.1 78 n1)) (σ.2.2 3)) (y_g2 n2 (σ.2.1 77 n1) (σ.2.1 71 (-2 - σ.2.1 77 n1)) (σ.2.1 72) (σ.2.2 5 (σ.2.1 78 n1)) (σ.2.2 6 (σ.2.1 78 n1)) (σ.2.2 3) (σ.2.2 4)) (σ.2.2 5) (σ.2.2 6) (τ_219.2.2 5) ((st (τ_219.2.2 6) n1 (x28 ||| 0))) from by (first | (exfalso; omega) | (rw [← e_x3, ← e_x2, ← e_x5, ← e_x6]; rw [← e_x9]; exact y_gt_0 (y_g_n (B := x6) (s2 := σ.2.2 4) (by omega) (by omega)).1 (y_g_n (by omega) (by omega)).2)   | (rw [← e_x3, ← e_x2, ← e_x5, ← e_x6]; rw [← e_x9]; exact y_gt_0 (y_g_z (s2 := σ.2.2 4) (by omega) (by rw [← e_x12]; assumption) p6 (p7 (by omega) (by omega))).1 (y_g_z (by omega) (by rw [← e_x12]; assumption) p6 (p7 (by omega) (by omega))).2)   | (rw [← e_x3, ← e_x2, ← e_x5, ← e_x6]; exact y_gt_0 (y_g_c (B := x6) (s2 := σ.2.2 4) (by omega) (Or.inl (by omega))).1 (y_g_c (by omega) (Or.inl (by omega))).2)   | (rw [← e_x3, ← e_x2, ← e_x5, ← e_x6]; exact y_gt_0 (y_g_c (B := x6) (s2 := σ.2.2 4) (by omega) (Or.inr (fun q => absurd ((y_sr1 (by omega) (by omega)).mpr q) (by assumption)))).1 (y_g_c (by omega) (Or.inr (fun q => absurd ((y_sr1 (by omega) (by omega)).mpr q) (by assumption)))).2)   | (rw [e_x28, e_τ_219]; exact UP 0 (y_g_l (y_g_2n (by omega) (by rw [← e_x14]; assumption) (by rw [← e_x17]; assumption) (by rw [← e_x19]; assumption))))   | (rw [e_x28, e_τ_219]; exact UP (j_shl 1 n2) (y_g_k (y_g_2a (by omega) (by omega) (by rw [← e_x14]; assumption)) (by omega) (by omega)))   | (rw [e_x28, e_τ_219]; exact UP (j_shl 1 n2) (y_g_k (y_g_2b (by omega) (by omega) (by rw [← e_x17]; assumption)) (by omega) (by omega)))   | (rw [e_x28, e_τ_219]; exact UP (j_shl 1 n2) (y_g_k (y_g_2c (by omega) (by omega) (by rw [← e_x19]; assumption)) (by omega) (by omega)))   | (rw [← e_x3, ← e_x2, ← e_x5, ← e_x6]; rw [e_x25, e_x26]; exact y_gt_1 (Or.inl ⟨by omega, by omega, (y_sr1 (by omega) (by omega)).mp (by assumption)⟩) (by omega) (by omega) (y_g_m (by omega) (by omega) ((y_sr1 (by omega) (by omega)).mp (by assumption)) (by omega) (by omega))) | fail))⟩
              ·
                refine h240 _ _ _ _ ?_
                refine ⟨(show 0 ≤ n1 ∧ n1 < 30002 from by (first | omega | (simp only [st_s] <;> omega) | assumption | omega | fail)), ?_⟩
                replace hT := mT_b (k := 6) (j := n1) (x := (x28 ||| (j_shl 1 n2))) hT
                exact ⟨hT, (show y_gt n1 n2 (y_g1 n2 (σ.2.1 77 n1) (σ.2.1 71 (-2 - σ.2.1 77 n1)) (σ.2.1 72) (σ.2.2 5 (σ.2.1 78 n1)) (σ.2.2 3)) (y_g2 n2 (σ.2.1 77 n1) (σ.2.1 71 (-2 - σ.2.1 77 n1)) (σ.2.1 72) (σ.2.2 5 (σ.2.1 78 n1)) (σ.2.2 6 (σ.2.1 78 n1)) (σ.2.2 3) (σ.2.2 4)) (σ.2.2 5) (σ.2.2 6) (τ_219.2.2 5) ((st (τ_219.2.2 6) n1 (x28 ||| (j_shl 1 n2)))) from by (first | (exfalso; omega) | (rw [← e_x3, ← e_x2, ← e_x5, ← e_x6]; rw [← e_x9]; exact y_gt_0 (y_g_n (B := x6) (s2 := σ.2.2 4) (by omega) (by omega)).1 (y_g_n (by omega) (by omega)).2)   | (rw [← e_x3, ← e_x2, ← e_x5, ← e_x6]; rw [← e_x9]; exact y_gt_0 (y_g_z (s2 := σ.2.2 4) (by omega) (by rw [← e_x12]; assumption) p6 (p7 (by omega) (by omega))).1 (y_g_z (by omega) (by rw [← e_x12]; assumption) p6 (p7 (by omega) (by omega))).2)   | (rw [← e_x3, ← e_x2, ← e_x5, ← e_x6]; exact y_gt_0 (y_g_c (B := x6) (s2 := σ.2.2 4) (by omega) (Or.inl (by omega))).1 (y_g_c (by omega) (Or.inl (by omega))).2)   | (rw [← e_x3, ← e_x2, ← e_x5, ← e_x6]; exact y_gt_0 (y_g_c (B := x6) (s2 := σ.2.2 4) (by omega) (Or.inr (fun q => absurd ((y_sr1 (by omega) (by omega)).mpr q) (by assumption)))).1 (y_g_c (by omega) (Or.inr (fun q => absurd ((y_sr1 (by omega) (by omega)).mpr q) (by assumption)))).2)   | (rw [e_x28, e_τ_219]; exact UP 0 (y_g_l (y_g_2n (by omega) (by rw [← e_x14]; assumption) (by rw [← e_x17]; assumption) (by rw [← e_x19]; assumption))))   | (rw [e_x28, e_τ_219]; exact UP (j_shl 1 n2) (y_g_k (y_g_2a (by omega) (by omega) (by rw [← e_x14]; assumption)) (by omega) (by omega)))   | (rw [e_x28, e_τ_219]; exact UP (j_shl 1 n2) (y_g_k (y_g_2b (by omega) (by omega) (by rw [← e_x17]; assumption)) (by omega) (by omega)))   | (rw [e_x28, e_τ_219]; exact UP (j_shl 1 n2) (y_g_k (y_g_2c (by omega) (by omega) (by rw [← e_x19]; assumption)) (by omega) (by omega)))   | (rw [← e_x3, ← e_x2, ← e_x5, ← e_x6]; rw [e_x25, e_x26]; exact y_gt_1 (Or.inl ⟨by omega, by omega, (y_sr1 (by omega) (by omega)).mp (by assumption)⟩) (by omega) (by omega) (y_g_m (by omega) (by omega) ((y_sr1 (by omega) (by omega)).mp (by assumption)) (by omega) (by omega))) | fail))⟩
            ·
              obtain ⟨τ_219, e_τ_219⟩ : ∃ z : S0, z = s_b σ 5 n1 (x15 ||| (j_shl 1 n2)) := ⟨_, rfl⟩
              rw [← e_τ_219]
              replace hT : m_T τ_219 := by rw [e_τ_219]; exact hT
              have g71_τ_219 : τ_219.2.1 71 = σ.2.1 71 := by rw [e_τ_219]; rfl
              have g72_τ_219 : τ_219.2.1 72 = σ.2.1 72 := by rw [e_τ_219]; rfl
              have g77_τ_219 : τ_219.2.1 77 = σ.2.1 77 := by rw [e_τ_219]; rfl
              have g78_τ_219 : τ_219.2.1 78 = σ.2.1 78 := by rw [e_τ_219]; rfl
              have G71 : τ_219.2.1 71 = σ.2.1 71 := (g71_τ_219).trans G71
              have G72 : τ_219.2.1 72 = σ.2.1 72 := (g72_τ_219).trans G72
              have G77 : τ_219.2.1 77 = σ.2.1 77 := (g77_τ_219).trans G77
              have G78 : τ_219.2.1 78 = σ.2.1 78 := (g78_τ_219).trans G78
              have A71 : ∀ j, (-1) ≤ τ_219.2.1 71 j ∧ τ_219.2.1 71 j ≤ 99 := fun j => hT.2 71 j
              have A72 : ∀ j, 0 ≤ τ_219.2.1 72 j ∧ τ_219.2.1 72 j ≤ 999 := fun j => hT.2 72 j
              have A77 : ∀ j, (-1001) ≤ τ_219.2.1 77 j ∧ τ_219.2.1 77 j ≤ 999 := fun j => hT.2 77 j
              have A78 : ∀ j, (-1) ≤ τ_219.2.1 78 j ∧ τ_219.2.1 78 j ≤ 30001 := fun j => hT.2 78 j
              refine h219 _ _ _ _ ?_
              refine ⟨(show 0 ≤ n1 ∧ n1 < 30002 from by (first | omega | (simp only [st_s] <;> omega) | assumption | omega | fail)), ?_⟩
              intro x28 e_x28
              refine ⟨fun c29 => ?_, fun c29 => ?_⟩
              ·
                refine h240 _ _ _ _ ?_
                refine ⟨(show 0 ≤ n1 ∧ n1 < 30002 from by (first | omega | (simp only [st_s] <;> omega) | assumption | omega | fail)), ?_⟩
                replace hT := mT_b (k := 6) (j := n1) (x := (x28 ||| 0)) hT
                exact ⟨hT, (show y_gt n1 n2 (y_g1 n2 (σ.2.1 77 n1) (σ.2.1 71 (-2 - σ.2.1 77 n1)) (σ.2.1 72) (σ.2.2 5 (σ.2.1 78 n1)) (σ.2.2 3)) (y_g2 n2 (σ.2.1 77 n1) (σ.2.1 71 (-2 - σ.2.1 77 n1)) (σ.2.1 72) (σ.2.2 5 (σ.2.1 78 n1)) (σ.2.2 6 (σ.2.1 78 n1)) (σ.2.2 3) (σ.2.2 4)) (σ.2.2 5) (σ.2.2 6) (τ_219.2.2 5) ((st (τ_219.2.2 6) n1 (x28 ||| 0))) from by (first | (exfalso; omega) | (rw [← e_x3, ← e_x2, ← e_x5, ← e_x6]; rw [← e_x9]; exact y_gt_0 (y_g_n (B := x6) (s2 := σ.2.2 4) (by omega) (by omega)).1 (y_g_n (by omega) (by omega)).2)   | (rw [← e_x3, ← e_x2, ← e_x5, ← e_x6]; rw [← e_x9]; exact y_gt_0 (y_g_z (s2 := σ.2.2 4) (by omega) (by rw [← e_x12]; assumption) p6 (p7 (by omega) (by omega))).1 (y_g_z (by omega) (by rw [← e_x12]; assumption) p6 (p7 (by omega) (by omega))).2)   | (rw [← e_x3, ← e_x2, ← e_x5, ← e_x6]; exact y_gt_0 (y_g_c (B := x6) (s2 := σ.2.2 4) (by omega) (Or.inl (by omega))).1 (y_g_c (by omega) (Or.inl (by omega))).2)   | (rw [← e_x3, ← e_x2, ← e_x5, ← e_x6]; exact y_gt_0 (y_g_c (B := x6) (s2 := σ.2.2 4) (by omega) (Or.inr (fun q => absurd ((y_sr1 (by omega) (by omega)).mpr q) (by assumption)))).1 (y_g_c (by omega) (Or.inr (fun q => absurd ((y_sr1 (by omega) (by omega)).mpr q) (by assumption)))).2)   | (rw [e_x28, e_τ_219]; exact UP 0 (y_g_l (y_g_2n (by omega) (by rw [← e_x14]; assumption) (by rw [← e_x17]; assumption) (by rw [← e_x19]; assumption))))   | (rw [e_x28, e_τ_219]; exact UP (j_shl 1 n2) (y_g_k (y_g_2a (by omega) (by omega) (by rw [← e_x14]; assumption)) (by omega) (by omega)))   | (rw [e_x28, e_τ_219]; exact UP (j_shl 1 n2) (y_g_k (y_g_2b (by omega) (by omega) (by rw [← e_x17]; assumption)) (by omega) (by omega)))   | (rw [e_x28, e_τ_219]; exact UP (j_shl 1 n2) (y_g_k (y_g_2c (by omega) (by omega) (by rw [← e_x19]; assumption)) (by omega) (by omega)))   | (rw [← e_x3, ← e_x2, ← e_x5, ← e_x6]; rw [e_x25, e_x26]; exact y_gt_1 (Or.inl ⟨by omega, by omega, (y_sr1 (by omega) (by omega)).mp (by assumption)⟩) (by omega) (by omega) (y_g_m (by omega) (by omega) ((y_sr1 (by omega) (by omega)).mp (by assumption)) (by omega) (by omega))) | fail))⟩
              ·
                refine h240 _ _ _ _ ?_
                refine ⟨(show 0 ≤ n1 ∧ n1 < 30002 from by (first | omega | (simp only [st_s] <;> omega) | assumption | omega | fail)), ?_⟩
                replace hT := mT_b (k := 6) (j := n1) (x := (x28 ||| (j_shl 1 n2))) hT
                exact ⟨hT, (show y_gt n1 n2 (y_g1 n2 (σ.2.1 77 n1) (σ.2.1 71 (-2 - σ.2.1 77 n1)) (σ.2.1 72) (σ.2.2 5 (σ.2.1 78 n1)) (σ.2.2 3)) (y_g2 n2 (σ.2.1 77 n1) (σ.2.1 71 (-2 - σ.2.1 77 n1)) (σ.2.1 72) (σ.2.2 5 (σ.2.1 78 n1)) (σ.2.2 6 (σ.2.1 78 n1)) (σ.2.2 3) (σ.2.2 4)) (σ.2.2 5) (σ.2.2 6) (τ_219.2.2 5) ((st (τ_219.2.2 6) n1 (x28 ||| (j_shl 1 n2)))) from by (first | (exfalso; omega) | (rw [← e_x3, ← e_x2, ← e_x5, ← e_x6]; rw [← e_x9]; exact y_gt_0 (y_g_n (B := x6) (s2 := σ.2.2 4) (by omega) (by omega)).1 (y_g_n (by omega) (by omega)).2)   | (rw [← e_x3, ← e_x2, ← e_x5, ← e_x6]; rw [← e_x9]; exact y_gt_0 (y_g_z (s2 := σ.2.2 4) (by omega) (by rw [← e_x12]; assumption) p6 (p7 (by omega) (by omega))).1 (y_g_z (by omega) (by rw [← e_x12]; assumption) p6 (p7 (by omega) (by omega))).2)   | (rw [← e_x3, ← e_x2, ← e_x5, ← e_x6]; exact y_gt_0 (y_g_c (B := x6) (s2 := σ.2.2 4) (by omega) (Or.inl (by omega))).1 (y_g_c (by omega) (Or.inl (by omega))).2)   | (rw [← e_x3, ← e_x2, ← e_x5, ← e_x6]; exact y_gt_0 (y_g_c (B := x6) (s2 := σ.2.2 4) (by omega) (Or.inr (fun q => absurd ((y_sr1 (by omega) (by omega)).mpr q) (by assumption)))).1 (y_g_c (by omega) (Or.inr (fun q => absurd ((y_sr1 (by omega) (by omega)).mpr q) (by assumption)))).2)   | (rw [e_x28, e_τ_219]; exact UP 0 (y_g_l (y_g_2n (by omega) (by rw [← e_x14]; assumption) (by rw [← e_x17]; assumption) (by rw [← e_x19]; assumption))))   | (rw [e_x28, e_τ_219]; exact UP (j_shl 1 n2) (y_g_k (y_g_2a (by omega) (by omega) (by rw [← e_x14]; assumption)) (by omega) (by omega)))   | (rw [e_x28, e_τ_219]; exact UP (j_shl 1 n2) (y_g_k (y_g_2b (by omega) (by omega) (by rw [← e_x17]; assumption)) (by omega) (by omega)))   | (rw [e_x28, e_τ_219]; exact UP (j_shl 1 n2) (y_g_k (y_g_2c (by omega) (by omega) (by rw [← e_x19]; assumption)) (by omega) (by omega)))   | (rw [← e_x3, ← e_x2, ← e_x5, ← e_x6]; rw [e_x25, e_x26]; exact y_gt_1 (Or.inl ⟨by omega, by omega, (y_sr1 (by omega) (by omega)).mp (by assumption)⟩) (by omega) (by omega) (y_g_m (by omega) (by omega) ((y_sr1 (by omega) (by omega)).mp (by assumption)) (by omega) (by omega))) | fail))⟩
      ·
        exact ⟨hT, (show y_gt n1 n2 (y_g1 n2 (σ.2.1 77 n1) (σ.2.1 71 (-2 - σ.2.1 77 n1)) (σ.2.1 72) (σ.2.2 5 (σ.2.1 78 n1)) (σ.2.2 3)) (y_g2 n2 (σ.2.1 77 n1) (σ.2.1 71 (-2 - σ.2.1 77 n1)) (σ.2.1 72) (σ.2.2 5 (σ.2.1 78 n1)) (σ.2.2 6 (σ.2.1 78 n1)) (σ.2.2 3) (σ.2.2 4)) (σ.2.2 5) (σ.2.2 6) (σ.2.2 5) (σ.2.2 6) from by (first | (exfalso; omega) | (rw [← e_x3, ← e_x2, ← e_x5, ← e_x6]; rw [← e_x9]; exact y_gt_0 (y_g_n (B := x6) (s2 := σ.2.2 4) (by omega) (by omega)).1 (y_g_n (by omega) (by omega)).2)   | (rw [← e_x3, ← e_x2, ← e_x5, ← e_x6]; rw [← e_x9]; exact y_gt_0 (y_g_z (s2 := σ.2.2 4) (by omega) (by rw [← e_x12]; assumption) p6 (p7 (by omega) (by omega))).1 (y_g_z (by omega) (by rw [← e_x12]; assumption) p6 (p7 (by omega) (by omega))).2)   | (rw [← e_x3, ← e_x2, ← e_x5, ← e_x6]; exact y_gt_0 (y_g_c (B := x6) (s2 := σ.2.2 4) (by omega) (Or.inl (by omega))).1 (y_g_c (by omega) (Or.inl (by omega))).2)   | (rw [← e_x3, ← e_x2, ← e_x5, ← e_x6]; exact y_gt_0 (y_g_c (B := x6) (s2 := σ.2.2 4) (by omega) (Or.inr (fun q => absurd ((y_sr1 (by omega) (by omega)).mpr q) (by assumption)))).1 (y_g_c (by omega) (Or.inr (fun q => absurd ((y_sr1 (by omega) (by omega)).mpr q) (by assumption)))).2)   | (rw [e_x28, e_τ_219]; exact UP 0 (y_g_l (y_g_2n (by omega) (by rw [← e_x14]; assumption) (by rw [← e_x17]; assumption) (by rw [← e_x19]; assumption))))   | (rw [e_x28, e_τ_219]; exact UP (j_shl 1 n2) (y_g_k (y_g_2a (by omega) (by omega) (by rw [← e_x14]; assumption)) (by omega) (by omega)))   | (rw [e_x28, e_τ_219]; exact UP (j_shl 1 n2) (y_g_k (y_g_2b (by omega) (by omega) (by rw [← e_x17]; assumption)) (by omega) (by omega)))   | (rw [e_x28, e_τ_219]; exact UP (j_shl 1 n2) (y_g_k (y_g_2c (by omega) (by omega) (by rw [← e_x19]; assumption)) (by omega) (by omega)))   | (rw [← e_x3, ← e_x2, ← e_x5, ← e_x6]; rw [e_x25, e_x26]; exact y_gt_1 (Or.inl ⟨by omega, by omega, (y_sr1 (by omega) (by omega)).mp (by assumption)⟩) (by omega) (by omega) (y_g_m (by omega) (by omega) ((y_sr1 (by omega) (by omega)).mp (by assumption)) (by omega) (by omega))) | fail))⟩
  ·
    refine ⟨(show 0 ≤ (n2 - 1) ∧ (n2 - 1) < 64 from by (first | omega | (simp only [st_s] <;> omega) | assumption | omega | fail)), ?_⟩
    intro x22 r_x22 e_x22
    have b_x22 : 0 ≤ x22 ∧ x22 ≤ 999 := by rw [e_x22]; exact hT.2 72 _
    refine ⟨fun c23 => ?_, fun c23 => ?_⟩
    ·
      exact ⟨hT, (show y_gt n1 n2 (y_g1 n2 (σ.2.1 77 n1) (σ.2.1 71 (-2 - σ.2.1 77 n1)) (σ.2.1 72) (σ.2.2 5 (σ.2.1 78 n1)) (σ.2.2 3)) (y_g2 n2 (σ.2.1 77 n1) (σ.2.1 71 (-2 - σ.2.1 77 n1)) (σ.2.1 72) (σ.2.2 5 (σ.2.1 78 n1)) (σ.2.2 6 (σ.2.1 78 n1)) (σ.2.2 3) (σ.2.2 4)) (σ.2.2 5) (σ.2.2 6) (σ.2.2 5) (σ.2.2 6) from by (first | (exfalso; omega) | (rw [← e_x3, ← e_x2, ← e_x5, ← e_x6]; rw [← e_x9]; exact y_gt_0 (y_g_n (B := x6) (s2 := σ.2.2 4) (by omega) (by omega)).1 (y_g_n (by omega) (by omega)).2)   | (rw [← e_x3, ← e_x2, ← e_x5, ← e_x6]; rw [← e_x9]; exact y_gt_0 (y_g_z (s2 := σ.2.2 4) (by omega) (by rw [← e_x12]; assumption) p6 (p7 (by omega) (by omega))).1 (y_g_z (by omega) (by rw [← e_x12]; assumption) p6 (p7 (by omega) (by omega))).2)   | (rw [← e_x3, ← e_x2, ← e_x5, ← e_x6]; exact y_gt_0 (y_g_c (B := x6) (s2 := σ.2.2 4) (by omega) (Or.inl (by omega))).1 (y_g_c (by omega) (Or.inl (by omega))).2)   | (rw [← e_x3, ← e_x2, ← e_x5, ← e_x6]; exact y_gt_0 (y_g_c (B := x6) (s2 := σ.2.2 4) (by omega) (Or.inr (fun q => absurd ((y_sr1 (by omega) (by omega)).mpr q) (by assumption)))).1 (y_g_c (by omega) (Or.inr (fun q => absurd ((y_sr1 (by omega) (by omega)).mpr q) (by assumption)))).2)   | (rw [e_x28, e_τ_219]; exact UP 0 (y_g_l (y_g_2n (by omega) (by rw [← e_x14]; assumption) (by rw [← e_x17]; assumption) (by rw [← e_x19]; assumption))))   | (rw [e_x28, e_τ_219]; exact UP (j_shl 1 n2) (y_g_k (y_g_2a (by omega) (by omega) (by rw [← e_x14]; assumption)) (by omega) (by omega)))   | (rw [e_x28, e_τ_219]; exact UP (j_shl 1 n2) (y_g_k (y_g_2b (by omega) (by omega) (by rw [← e_x17]; assumption)) (by omega) (by omega)))   | (rw [e_x28, e_τ_219]; exact UP (j_shl 1 n2) (y_g_k (y_g_2c (by omega) (by omega) (by rw [← e_x19]; assumption)) (by omega) (by omega)))   | (rw [← e_x3, ← e_x2, ← e_x5, ← e_x6]; rw [e_x25, e_x26]; exact y_gt_1 (Or.inl ⟨by omega, by omega, (y_sr1 (by omega) (by omega)).mp (by assumption)⟩) (by omega) (by omega) (y_g_m (by omega) (by omega) ((y_sr1 (by omega) (by omega)).mp (by assumption)) (by omega) (by omega))) | fail))⟩
    ·
      refine ⟨fun c24 => ?_, fun c24 => ?_⟩
      ·
        exact ⟨hT, (show y_gt n1 n2 (y_g1 n2 (σ.2.1 77 n1) (σ.2.1 71 (-2 - σ.2.1 77 n1)) (σ.2.1 72) (σ.2.2 5 (σ.2.1 78 n1)) (σ.2.2 3)) (y_g2 n2 (σ.2.1 77 n1) (σ.2.1 71 (-2 - σ.2.1 77 n1)) (σ.2.1 72) (σ.2.2 5 (σ.2.1 78 n1)) (σ.2.2 6 (σ.2.1 78 n1)) (σ.2.2 3) (σ.2.2 4)) (σ.2.2 5) (σ.2.2 6) (σ.2.2 5) (σ.2.2 6) from by (first | (exfalso; omega) | (rw [← e_x3, ← e_x2, ← e_x5, ← e_x6]; rw [← e_x9]; exact y_gt_0 (y_g_n (B := x6) (s2 := σ.2.2 4) (by omega) (by omega)).1 (y_g_n (by omega) (by omega)).2)   | (rw [← e_x3, ← e_x2, ← e_x5, ← e_x6]; rw [← e_x9]; exact y_gt_0 (y_g_z (s2 := σ.2.2 4) (by omega) (by rw [← e_x12]; assumption) p6 (p7 (by omega) (by omega))).1 (y_g_z (by omega) (by rw [← e_x12]; assumption) p6 (p7 (by omega) (by omega))).2)   | (rw [← e_x3, ← e_x2, ← e_x5, ← e_x6]; exact y_gt_0 (y_g_c (B := x6) (s2 := σ.2.2 4) (by omega) (Or.inl (by omega))).1 (y_g_c (by omega) (Or.inl (by omega))).2)   | (rw [← e_x3, ← e_x2, ← e_x5, ← e_x6]; exact y_gt_0 (y_g_c (B := x6) (s2 := σ.2.2 4) (by omega) (Or.inr (fun q => absurd ((y_sr1 (by omega) (by omega)).mpr q) (by assumption)))).1 (y_g_c (by omega) (Or.inr (fun q => absurd ((y_sr1 (by omega) (by omega)).mpr q) (by assumption)))).2)   | (rw [e_x28, e_τ_219]; exact UP 0 (y_g_l (y_g_2n (by omega) (by rw [← e_x14]; assumption) (by rw [← e_x17]; assumption) (by rw [← e_x19]; assumption))))   | (rw [e_x28, e_τ_219]; exact UP (j_shl 1 n2) (y_g_k (y_g_2a (by omega) (by omega) (by rw [← e_x14]; assumption)) (by omega) (by omega)))   | (rw [e_x28, e_τ_219]; exact UP (j_shl 1 n2) (y_g_k (y_g_2b (by omega) (by omega) (by rw [← e_x17]; assumption)) (by omega) (by omega)))   | (rw [e_x28, e_τ_219]; exact UP (j_shl 1 n2) (y_g_k (y_g_2c (by omega) (by omega) (by rw [← e_x19]; assumption)) (by omega) (by omega)))   | (rw [← e_x3, ← e_x2, ← e_x5, ← e_x6]; rw [e_x25, e_x26]; exact y_gt_1 (Or.inl ⟨by omega, by omega, (y_sr1 (by omega) (by omega)).mp (by assumption)⟩) (by omega) (by omega) (y_g_m (by omega) (by omega) ((y_sr1 (by omega) (by omega)).mp (by assumption)) (by omega) (by omega))) | fail))⟩
      ·
        intro x25 e_x25
        replace hT := mT_b (k := 5) (j := n1) (x := (x25 ||| (j_shl 1 n2))) hT
        intro x26 e_x26
        replace hT := mT_b (k := 6) (j := n1) (x := (x26 ||| (j_shl ((j_shr x6 (n2 - 1)) &&& 1) n2))) hT
        exact ⟨hT, (show y_gt n1 n2 (y_g1 n2 (σ.2.1 77 n1) (σ.2.1 71 (-2 - σ.2.1 77 n1)) (σ.2.1 72) (σ.2.2 5 (σ.2.1 78 n1)) (σ.2.2 3)) (y_g2 n2 (σ.2.1 77 n1) (σ.2.1 71 (-2 - σ.2.1 77 n1)) (σ.2.1 72) (σ.2.2 5 (σ.2.1 78 n1)) (σ.2.2 6 (σ.2.1 78 n1)) (σ.2.2 3) (σ.2.2 4)) (σ.2.2 5) (σ.2.2 6) ((st (σ.2.2 5) n1 (x25 ||| (j_shl 1 n2)))) ((st (σ.2.2 6) n1 (x26 ||| (j_shl ((j_shr x6 (n2 - 1)) &&& 1) n2)))) from by (first | (exfalso; omega) | (rw [← e_x3, ← e_x2, ← e_x5, ← e_x6]; rw [← e_x9]; exact y_gt_0 (y_g_n (B := x6) (s2 := σ.2.2 4) (by omega) (by omega)).1 (y_g_n (by omega) (by omega)).2)   | (rw [← e_x3, ← e_x2, ← e_x5, ← e_x6]; rw [← e_x9]; exact y_gt_0 (y_g_z (s2 := σ.2.2 4) (by omega) (by rw [← e_x12]; assumption) p6 (p7 (by omega) (by omega))).1 (y_g_z (by omega) (by rw [← e_x12]; assumption) p6 (p7 (by omega) (by omega))).2)   | (rw [← e_x3, ← e_x2, ← e_x5, ← e_x6]; exact y_gt_0 (y_g_c (B := x6) (s2 := σ.2.2 4) (by omega) (Or.inl (by omega))).1 (y_g_c (by omega) (Or.inl (by omega))).2)   | (rw [← e_x3, ← e_x2, ← e_x5, ← e_x6]; exact y_gt_0 (y_g_c (B := x6) (s2 := σ.2.2 4) (by omega) (Or.inr (fun q => absurd ((y_sr1 (by omega) (by omega)).mpr q) (by assumption)))).1 (y_g_c (by omega) (Or.inr (fun q => absurd ((y_sr1 (by omega) (by omega)).mpr q) (by assumption)))).2)   | (rw [e_x28, e_τ_219]; exact UP 0 (y_g_l (y_g_2n (by omega) (by rw [← e_x14]; assumption) (by rw [← e_x17]; assumption) (by rw [← e_x19]; assumption))))   | (rw [e_x28, e_τ_219]; exact UP (j_shl 1 n2) (y_g_k (y_g_2a (by omega) (by omega) (by rw [← e_x14]; assumption)) (by omega) (by omega)))   | (rw [e_x28, e_τ_219]; exact UP (j_shl 1 n2) (y_g_k (y_g_2b (by omega) (by omega) (by rw [← e_x17]; assumption)) (by omega) (by omega)))   | (rw [e_x28, e_τ_219]; exact UP (j_shl 1 n2) (y_g_k (y_g_2c (by omega) (by omega) (by rw [← e_x19]; assumption)) (by omega) (by omega)))   | (rw [← e_x3, ← e_x2, ← e_x5, ← e_x6]; rw [e_x25, e_x26]; exact y_gt_1 (Or.inl ⟨by omega, by omega, (y_sr1 (by omega) (by omega)).mp (by assumption)⟩) (by omega) (by omega) (y_g_m (by omega) (by omega) ((y_sr1 (by omega) (by omega)).mp (by assumption)) (by omega) (by omega))) | fail))⟩
