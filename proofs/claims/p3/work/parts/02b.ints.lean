-- ints of the machine told by whole numbers
def I (x : Int) : Int32 := Int32.ofInt x
theorem I_add (x y : Int) : I x + I y = I (x + y) := (Int32.ofInt_add x y).symm
theorem I_sub (x y : Int) : I x - I y = I (x - y) := (Int32.ofInt_sub x y).symm
theorem I_mul (x y : Int) : I x * I y = I (x * y) := (Int32.ofInt_mul x y).symm
theorem I_neg (x : Int) : -I x = I (-x) := (Int32.ofInt_neg x).symm
theorem I_toInt {x : Int} (h0 : -2147483648 ≤ x) (h1 : x ≤ 2147483647) : (I x).toInt = x := by
  unfold I
  rw [Int32.toInt_ofInt]
  show Int.bmod x 4294967296 = x
  exact Int.bmod_eq_of_le (by omega) (by omega)
theorem I_of (z : Int32) : ∃ e : Int, (-2147483648 ≤ e ∧ e ≤ 2147483647) ∧ z = I e := by
  refine ⟨z.toInt, ⟨by have := z.le_toInt; omega, by have := z.toInt_lt; omega⟩, ?_⟩
  unfold I
  exact (Int32.ofInt_toInt z).symm
theorem I_lt {x y : Int} (hx : -2147483648 ≤ x ∧ x ≤ 2147483647) (hy : -2147483648 ≤ y ∧ y ≤ 2147483647) : I x < I y ↔ x < y := by
  rw [Int32.lt_iff_toInt_lt, I_toInt hx.1 hx.2, I_toInt hy.1 hy.2]
theorem I_le {x y : Int} (hx : -2147483648 ≤ x ∧ x ≤ 2147483647) (hy : -2147483648 ≤ y ∧ y ≤ 2147483647) : I x ≤ I y ↔ x ≤ y := by
  rw [Int32.le_iff_toInt_le, I_toInt hx.1 hx.2, I_toInt hy.1 hy.2]
theorem I_eq {x y : Int} (hx : -2147483648 ≤ x ∧ x ≤ 2147483647) (hy : -2147483648 ≤ y ∧ y ≤ 2147483647) : I x = I y ↔ x = y := by
  rw [← Int32.toInt_inj, I_toInt hx.1 hx.2, I_toInt hy.1 hy.2]
theorem I_0 : (0 : Int32) = I 0 := rfl
theorem I_nc {x : Int} (h0 : 0 ≤ x) (h1 : x ≤ 2147483647) : (I x).toNatClampNeg = x.toNat := by
  show (I x).toInt.toNat = x.toNat
  rw [I_toInt (by omega) h1]
theorem I_in {x : Int} {n : Nat} (h0 : 0 ≤ x) (h1 : x < (n : Int)) (hn : n < 2 ^ 31) : vp_in (I x) n := by
  rintro (h | h)
  · rw [I_0, I_lt ⟨by omega, by omega⟩ ⟨by omega, by omega⟩] at h; omega
  · rw [I_nc h0 (by omega)] at h; omega
theorem I_nat {x : Int} (h : 0 ≤ x) : I x = nI x.toNat := by
  obtain ⟨n, rfl⟩ := Int.eq_ofNat_of_zero_le h
  show (⟨⟨BitVec.ofInt 32 (n : Int)⟩⟩ : Int32) = ⟨⟨BitVec.ofNat 32 n⟩⟩
  rw [BitVec.ofInt_natCast]
theorem I_div {x y : Int} (h0 : 0 ≤ x) (h1 : x ≤ 2147483647) (h2 : 0 < y) (h3 : y ≤ 2147483647) : I x / I y = I (x / y) := by
  obtain ⟨m, rfl⟩ := Int.eq_ofNat_of_zero_le h0
  obtain ⟨n, rfl⟩ := Int.eq_ofNat_of_zero_le (by omega : 0 ≤ y)
  have e := pk_div (a := m) (d := n) (by omega) (by omega) (by omega)
  rw [I_nat (by omega), I_nat (by omega), I_nat (Int.ediv_nonneg h0 (by omega))]
  exact e
theorem I_rem {x y : Int} (h0 : 0 ≤ x) (h1 : x ≤ 2147483647) (h2 : 0 < y) (h3 : y ≤ 2147483647) : I x - I x / I y * I y = I (x % y) := by
  rw [I_div h0 h1 h2 h3, I_mul, I_sub]
  congr 1
  have := Int.mul_ediv_add_emod x y
  have e : y * (x / y) = x / y * y := Int.mul_comm _ _
  omega
theorem I_bv (x : Int) : (I x).toBitVec = BitVec.ofInt 32 x := rfl
theorem I_xor (x : Int) : I x ^^^ I (-1) = I (-1 - x) := by
  rw [← I_sub]
  apply Int32.toBitVec_inj.mp
  have e1 : (I (-1)).toBitVec = BitVec.allOnes 32 := by decide
  rw [Int32.toBitVec_xor, Int32.toBitVec_sub, e1, BitVec.xor_allOnes]
  exact (BitVec.allOnes_sub_eq_not _).symm
theorem I_tn (x : Int) : (I x).toBitVec.toNat = (x % 4294967296).toNat := by
  rw [I_bv, BitVec.toNat_ofInt]
  rfl
theorem I_and (x : Int) {m : Int} (k : Nat) (p : Int) (hm : (I m).toBitVec.toNat = 2 ^ k - 1) (hp : ((2 ^ k : Nat) : Int) = p) (hz : (x % 4294967296) % p = x % p) : I x &&& I m = I (x % p) := by
  have h1 : 0 < p := by rw [← hp]; exact Int.natCast_pos.mpr (Nat.two_pow_pos k)
  rw [pk_and (I x) k hm, I_tn, I_nat (Int.emod_nonneg _ (by omega))]
  congr 1
  have e : (((x % 4294967296).toNat % 2 ^ k : Nat) : Int) = ((x % p).toNat : Int) := by
    rw [Int.natCast_emod, hp, Int.toNat_of_nonneg (Int.emod_nonneg _ (by omega)), Int.toNat_of_nonneg (Int.emod_nonneg _ (by omega))]
    exact hz
  exact Int.ofNat.inj e
theorem I_shr {x : Int} (h0 : 0 ≤ x) (h1 : x ≤ 2147483647) (s : Int32) (k : Nat) (p : Int) (hs : (s.toBitVec.smod 32).toNat = k) (hp : ((2 ^ k : Nat) : Int) = p) : I x >>> s = I (x / p) := by
  obtain ⟨n, rfl⟩ := Int.eq_ofNat_of_zero_le h0
  rw [I_nat (by omega)]
  show nI n >>> s = _
  rw [pk_shrN (by omega) s k hs, ← hp, I_nat (Int.ediv_nonneg h0 (Int.natCast_nonneg _))]
  rfl
section BI
variable {p : Program} {l : Launch} {e : Env} {R : Room} {s : State} {m : MethodId} {args : Array Value} {below : List Frame} {meth : Method} {c : Code} {H : Heap} {locs : List Loc} {cells slots : Nat} {Q : State → Prop} {pc : Nat} {ls : Array Slot} {rest : List Value} {cc : ByteArray}
abbrev rg (x : Int) : Prop := -2147483648 ≤ x ∧ x ≤ 2147483647
theorem bi_if_eq (hx : p.tables.exec = Jvm.exec) (hb : c.code = cc) {x : Int} {off : Int} {tgt : Nat} (rx : rg x) (hdg : decode cc pc = .ok (.ifCond .eq off, 3)) (ht : (pc : Int) + off = (tgt : Int)) (kt : x = 0 → W p l e R s m args below meth c H locs cells slots Q (F0 m tgt ls rest)) (kf : ¬ x = 0 → W p l e R s m args below meth c H locs cells slots Q (F0 m (pc + 3) ls rest)) : W p l e R s m args below meth c H locs cells slots Q (F0 m pc ls (.int (I x) :: rest)) :=
  lv_if_eq hx hb hdg ht (fun h => kt ((I_eq rx (by omega)).mp h)) (fun h => kf (fun q => h ((I_eq rx (by omega)).mpr q)))
theorem bi_if_ne (hx : p.tables.exec = Jvm.exec) (hb : c.code = cc) {x : Int} {off : Int} {tgt : Nat} (rx : rg x) (hdg : decode cc pc = .ok (.ifCond .ne off, 3)) (ht : (pc : Int) + off = (tgt : Int)) (kt : ¬ x = 0 → W p l e R s m args below meth c H locs cells slots Q (F0 m tgt ls rest)) (kf : x = 0 → W p l e R s m args below meth c H locs cells slots Q (F0 m (pc + 3) ls rest)) : W p l e R s m args below meth c H locs cells slots Q (F0 m pc ls (.int (I x) :: rest)) :=
  lv_if_ne hx hb hdg ht (fun h => kt (fun q => h ((I_eq rx (by omega)).mpr q))) (fun h => kf ((I_eq rx (by omega)).mp h))
theorem bi_if_lt (hx : p.tables.exec = Jvm.exec) (hb : c.code = cc) {x : Int} {off : Int} {tgt : Nat} (rx : rg x) (hdg : decode cc pc = .ok (.ifCond .lt off, 3)) (ht : (pc : Int) + off = (tgt : Int)) (kt : x < 0 → W p l e R s m args below meth c H locs cells slots Q (F0 m tgt ls rest)) (kf : 0 ≤ x → W p l e R s m args below meth c H locs cells slots Q (F0 m (pc + 3) ls rest)) : W p l e R s m args below meth c H locs cells slots Q (F0 m pc ls (.int (I x) :: rest)) :=
  lv_if_lt hx hb hdg ht (fun h => kt ((I_lt rx (by omega)).mp h)) (fun h => kf (Int.not_lt.mp (fun q => h ((I_lt rx (by omega)).mpr q))))
theorem bi_if_ge (hx : p.tables.exec = Jvm.exec) (hb : c.code = cc) {x : Int} {off : Int} {tgt : Nat} (rx : rg x) (hdg : decode cc pc = .ok (.ifCond .ge off, 3)) (ht : (pc : Int) + off = (tgt : Int)) (kt : 0 ≤ x → W p l e R s m args below meth c H locs cells slots Q (F0 m tgt ls rest)) (kf : x < 0 → W p l e R s m args below meth c H locs cells slots Q (F0 m (pc + 3) ls rest)) : W p l e R s m args below meth c H locs cells slots Q (F0 m pc ls (.int (I x) :: rest)) :=
  lv_if_ge hx hb hdg ht (fun h => kt ((I_le (by omega) rx).mp h)) (fun h => kf (Int.not_le.mp (fun q => h ((I_le (by omega) rx).mpr q))))
theorem bi_if_gt (hx : p.tables.exec = Jvm.exec) (hb : c.code = cc) {x : Int} {off : Int} {tgt : Nat} (rx : rg x) (hdg : decode cc pc = .ok (.ifCond .gt off, 3)) (ht : (pc : Int) + off = (tgt : Int)) (kt : 0 < x → W p l e R s m args below meth c H locs cells slots Q (F0 m tgt ls rest)) (kf : x ≤ 0 → W p l e R s m args below meth c H locs cells slots Q (F0 m (pc + 3) ls rest)) : W p l e R s m args below meth c H locs cells slots Q (F0 m pc ls (.int (I x) :: rest)) :=
  lv_if_gt hx hb hdg ht (fun h => kt ((I_lt (by omega) rx).mp h)) (fun h => kf (Int.not_lt.mp (fun q => h ((I_lt (by omega) rx).mpr q))))
theorem bi_if_le (hx : p.tables.exec = Jvm.exec) (hb : c.code = cc) {x : Int} {off : Int} {tgt : Nat} (rx : rg x) (hdg : decode cc pc = .ok (.ifCond .le off, 3)) (ht : (pc : Int) + off = (tgt : Int)) (kt : x ≤ 0 → W p l e R s m args below meth c H locs cells slots Q (F0 m tgt ls rest)) (kf : 0 < x → W p l e R s m args below meth c H locs cells slots Q (F0 m (pc + 3) ls rest)) : W p l e R s m args below meth c H locs cells slots Q (F0 m pc ls (.int (I x) :: rest)) :=
  lv_if_le hx hb hdg ht (fun h => kt ((I_le rx (by omega)).mp h)) (fun h => kf (Int.not_le.mp (fun q => h ((I_le rx (by omega)).mpr q))))
theorem bi_icmp_eq (hx : p.tables.exec = Jvm.exec) (hb : c.code = cc) {x y : Int} {off : Int} {tgt : Nat} (rx : rg x) (ry : rg y) (hdg : decode cc pc = .ok (.if_icmp .eq off, 3)) (ht : (pc : Int) + off = (tgt : Int)) (kt : x = y → W p l e R s m args below meth c H locs cells slots Q (F0 m tgt ls rest)) (kf : ¬ x = y → W p l e R s m args below meth c H locs cells slots Q (F0 m (pc + 3) ls rest)) : W p l e R s m args below meth c H locs cells slots Q (F0 m pc ls (.int (I y) :: .int (I x) :: rest)) :=
  lv_icmp_eq hx hb hdg ht (fun h => kt ((I_eq rx ry).mp h)) (fun h => kf (fun q => h ((I_eq rx ry).mpr q)))
theorem bi_icmp_ne (hx : p.tables.exec = Jvm.exec) (hb : c.code = cc) {x y : Int} {off : Int} {tgt : Nat} (rx : rg x) (ry : rg y) (hdg : decode cc pc = .ok (.if_icmp .ne off, 3)) (ht : (pc : Int) + off = (tgt : Int)) (kt : ¬ x = y → W p l e R s m args below meth c H locs cells slots Q (F0 m tgt ls rest)) (kf : x = y → W p l e R s m args below meth c H locs cells slots Q (F0 m (pc + 3) ls rest)) : W p l e R s m args below meth c H locs cells slots Q (F0 m pc ls (.int (I y) :: .int (I x) :: rest)) :=
  lv_icmp_ne hx hb hdg ht (fun h => kt (fun q => h ((I_eq rx ry).mpr q))) (fun h => kf ((I_eq rx ry).mp h))
theorem bi_icmp_lt (hx : p.tables.exec = Jvm.exec) (hb : c.code = cc) {x y : Int} {off : Int} {tgt : Nat} (rx : rg x) (ry : rg y) (hdg : decode cc pc = .ok (.if_icmp .lt off, 3)) (ht : (pc : Int) + off = (tgt : Int)) (kt : x < y → W p l e R s m args below meth c H locs cells slots Q (F0 m tgt ls rest)) (kf : y ≤ x → W p l e R s m args below meth c H locs cells slots Q (F0 m (pc + 3) ls rest)) : W p l e R s m args below meth c H locs cells slots Q (F0 m pc ls (.int (I y) :: .int (I x) :: rest)) :=
  lv_icmp_lt hx hb hdg ht (fun h => kt ((I_lt rx ry).mp h)) (fun h => kf (Int.not_lt.mp (fun q => h ((I_lt rx ry).mpr q))))
theorem bi_icmp_ge (hx : p.tables.exec = Jvm.exec) (hb : c.code = cc) {x y : Int} {off : Int} {tgt : Nat} (rx : rg x) (ry : rg y) (hdg : decode cc pc = .ok (.if_icmp .ge off, 3)) (ht : (pc : Int) + off = (tgt : Int)) (kt : y ≤ x → W p l e R s m args below meth c H locs cells slots Q (F0 m tgt ls rest)) (kf : x < y → W p l e R s m args below meth c H locs cells slots Q (F0 m (pc + 3) ls rest)) : W p l e R s m args below meth c H locs cells slots Q (F0 m pc ls (.int (I y) :: .int (I x) :: rest)) :=
  lv_icmp_ge hx hb hdg ht (fun h => kt ((I_le ry rx).mp h)) (fun h => kf (Int.not_le.mp (fun q => h ((I_le ry rx).mpr q))))
theorem bi_icmp_gt (hx : p.tables.exec = Jvm.exec) (hb : c.code = cc) {x y : Int} {off : Int} {tgt : Nat} (rx : rg x) (ry : rg y) (hdg : decode cc pc = .ok (.if_icmp .gt off, 3)) (ht : (pc : Int) + off = (tgt : Int)) (kt : y < x → W p l e R s m args below meth c H locs cells slots Q (F0 m tgt ls rest)) (kf : x ≤ y → W p l e R s m args below meth c H locs cells slots Q (F0 m (pc + 3) ls rest)) : W p l e R s m args below meth c H locs cells slots Q (F0 m pc ls (.int (I y) :: .int (I x) :: rest)) :=
  lv_icmp_gt hx hb hdg ht (fun h => kt ((I_lt ry rx).mp h)) (fun h => kf (Int.not_lt.mp (fun q => h ((I_lt ry rx).mpr q))))
theorem bi_icmp_le (hx : p.tables.exec = Jvm.exec) (hb : c.code = cc) {x y : Int} {off : Int} {tgt : Nat} (rx : rg x) (ry : rg y) (hdg : decode cc pc = .ok (.if_icmp .le off, 3)) (ht : (pc : Int) + off = (tgt : Int)) (kt : x ≤ y → W p l e R s m args below meth c H locs cells slots Q (F0 m tgt ls rest)) (kf : y < x → W p l e R s m args below meth c H locs cells slots Q (F0 m (pc + 3) ls rest)) : W p l e R s m args below meth c H locs cells slots Q (F0 m pc ls (.int (I y) :: .int (I x) :: rest)) :=
  lv_icmp_le hx hb hdg ht (fun h => kt ((I_le rx ry).mp h)) (fun h => kf (Int.not_le.mp (fun q => h ((I_le rx ry).mpr q))))
end BI
