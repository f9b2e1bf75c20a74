-- pure: bits of longs
def j_b (x : Int64) (k : Int) : Prop := x.toBitVec.getLsbD k.toNat = true
theorem j_sh1 : ∀ n : Fin 64, (((I ((n.val : Nat) : Int)).toInt64.toUInt64 &&& Int64.toUInt64 63).toBitVec % 64#64).toNat = n.val := by decide +kernel
theorem j_sh2 : ∀ n : Fin 64, (((I ((n.val : Nat) : Int)).toInt64 &&& 63).toBitVec.smod 64#64).toNat = n.val := by decide +kernel
theorem j_ushr_v {x : Int64} {k : Int} (h0 : 0 ≤ k) (h1 : k < 64) : (j_ushr x k).toBitVec = x.toBitVec >>> k.toNat := by
  obtain ⟨n, rfl⟩ := Int.eq_ofNat_of_zero_le h0
  have e := j_sh1 ⟨n, by omega⟩
  show x.toBitVec >>> (((I (n : Int)).toInt64.toUInt64 &&& Int64.toUInt64 63).toBitVec % 64#64) = x.toBitVec >>> n
  rw [BitVec.ushiftRight_eq', e]
theorem j_shl_v {x : Int64} {k : Int} (h0 : 0 ≤ k) (h1 : k < 64) : (j_shl x k).toBitVec = x.toBitVec <<< k.toNat := by
  obtain ⟨n, rfl⟩ := Int.eq_ofNat_of_zero_le h0
  have e := j_sh2 ⟨n, by omega⟩
  show x.toBitVec <<< (((I (n : Int)).toInt64 &&& 63).toBitVec.smod 64#64) = x.toBitVec <<< n
  rw [BitVec.shiftLeft_eq', e]
theorem j_b_v {x : Int64} {k : Int} (h0 : 0 ≤ k) (h1 : k < 64) : (j_b x k ∧ (j_ushr x k &&& 1) = 1) ∨ (¬ j_b x k ∧ (j_ushr x k &&& 1) = 0) := by
  have e : (j_ushr x k &&& 1).toBitVec = BitVec.setWidth 64 (BitVec.ofBool (x.toBitVec.getLsbD k.toNat)) := by
    show (j_ushr x k).toBitVec &&& 1#64 = _
    rw [j_ushr_v h0 h1, BitVec.and_one_eq_setWidth_ofBool_getLsbD, BitVec.getLsbD_ushiftRight, Nat.add_zero]
  unfold j_b
  cases z : x.toBitVec.getLsbD k.toNat
  · rw [z] at e
    exact Or.inr ⟨by decide, Int64.toBitVec_inj.mp (e.trans (by decide))⟩
  · rw [z] at e
    exact Or.inl ⟨rfl, Int64.toBitVec_inj.mp (e.trans (by decide))⟩
theorem j_b_t {x : Int64} {k : Int} (h0 : 0 ≤ k) (h1 : k < 64) : ¬ (j_ushr x k &&& 1) = 0 ↔ j_b x k := by
  rcases j_b_v (x := x) h0 h1 with ⟨a, b⟩ | ⟨a, b⟩
  · rw [b]; exact ⟨fun _ => a, fun _ => by decide⟩
  · rw [b]; exact ⟨fun q => absurd rfl q, fun q => absurd q a⟩
theorem j_b_f {x : Int64} {k : Int} (h0 : 0 ≤ k) (h1 : k < 64) : (j_ushr x k &&& 1) = 0 ↔ ¬ j_b x k := by
  rcases j_b_v (x := x) h0 h1 with ⟨a, b⟩ | ⟨a, b⟩
  · rw [b]; exact ⟨fun q => absurd q (by decide), fun q => absurd a q⟩
  · rw [b]; exact ⟨fun _ => a, fun _ => rfl⟩
theorem j_b_or (x y : Int64) (k : Int) : j_b (x ||| y) k ↔ j_b x k ∨ j_b y k := by
  unfold j_b
  rw [Int64.toBitVec_or, BitVec.getLsbD_or, Bool.or_eq_true]
theorem j_b_and (x y : Int64) (k : Int) : j_b (x &&& y) k ↔ j_b x k ∧ j_b y k := by
  unfold j_b
  rw [Int64.toBitVec_and, BitVec.getLsbD_and, Bool.and_eq_true]
theorem j_b_not (x : Int64) {k : Int} (h0 : 0 ≤ k) (h1 : k < 64) : j_b (x ^^^ (-1)) k ↔ ¬ j_b x k := by
  unfold j_b
  have e : (-1 : Int64).toBitVec = BitVec.allOnes 64 := by decide
  rw [Int64.toBitVec_xor, BitVec.getLsbD_xor, e, BitVec.getLsbD_allOnes, show decide (k.toNat < 64) = true from decide_eq_true (by omega)]
  cases x.toBitVec.getLsbD k.toNat <;> decide
theorem j_b_0 (k : Int) : ¬ j_b 0 k := by
  unfold j_b
  show ¬ (0#64).getLsbD k.toNat = true
  rw [BitVec.getLsbD_zero]; decide
theorem j_b_ext {x : Int64} (h : ∀ k : Int, 0 ≤ k → k < 64 → ¬ j_b x k) : x = 0 := by
  refine Int64.toBitVec_inj.mp (BitVec.eq_of_getLsbD_eq (fun i hi => ?_))
  have w := h (i : Int) (by omega) (by omega)
  unfold j_b at w
  show x.toBitVec.getLsbD i = (0#64).getLsbD i
  rw [BitVec.getLsbD_zero]
  exact Bool.eq_false_iff.mpr w
theorem j_b_shl (x : Int64) {s k : Int} (s0 : 0 ≤ s) (s1 : s < 64) (h0 : 0 ≤ k) (h1 : k < 64) : j_b (j_shl x s) k ↔ s ≤ k ∧ j_b x (k - s) := by
  unfold j_b
  rw [j_shl_v s0 s1, BitVec.getLsbD_shiftLeft, show decide (k.toNat < 64) = true from decide_eq_true (by omega), Bool.true_and, show (k - s).toNat = k.toNat - s.toNat from by omega]
  by_cases z : s ≤ k
  · rw [show decide (k.toNat < s.toNat) = false from decide_eq_false (by omega)]
    exact ⟨fun q => ⟨z, by simpa using q⟩, fun q => by simpa using q.2⟩
  · rw [show decide (k.toNat < s.toNat) = true from decide_eq_true (by omega)]
    exact ⟨fun q => by simp at q, fun q => absurd q.1 z⟩
theorem j_b_one {s k : Int} (s0 : 0 ≤ s) (s1 : s < 64) (h0 : 0 ≤ k) (h1 : k < 64) : j_b (j_shl 1 s) k ↔ k = s := by
  rw [j_b_shl 1 s0 s1 h0 h1]
  unfold j_b
  show s ≤ k ∧ (1#64).getLsbD (k - s).toNat = true ↔ k = s
  rw [BitVec.getLsbD_one]
  constructor
  · rintro ⟨a, b⟩
    have b2 : (k - s).toNat = 0 := by simpa using b
    omega
  · intro a
    refine ⟨by omega, ?_⟩
    rw [show (k - s).toNat = 0 from by omega]; decide
