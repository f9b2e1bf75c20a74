-- small facts for the branches
theorem xneg_lt_T {x y : Int32} {P : Prop} (h : x < y) (cc : y ≤ x) : P := by rw [Int32.lt_iff_toInt_lt] at h; rw [Int32.le_iff_toInt_le] at cc; omega
theorem xneg_lt_F {x y : Int32} {P : Prop} (h : ¬ x < y) (cc : ¬ y ≤ x) : P := by rw [Int32.lt_iff_toInt_lt] at h; rw [Int32.le_iff_toInt_le] at cc; omega
theorem xneg_ge_T {x y : Int32} {P : Prop} (h : y ≤ x) (cc : x < y) : P := xneg_lt_T cc h
theorem xneg_ge_F {x y : Int32} {P : Prop} (h : ¬ y ≤ x) (cc : ¬ x < y) : P := xneg_lt_F cc h
theorem xneg_gt_T {x y : Int32} {P : Prop} (h : y < x) (cc : x ≤ y) : P := xneg_lt_T h cc
theorem xneg_gt_F {x y : Int32} {P : Prop} (h : ¬ y < x) (cc : ¬ x ≤ y) : P := xneg_lt_F h cc
theorem xneg_le_T {x y : Int32} {P : Prop} (h : x ≤ y) (cc : y < x) : P := xneg_lt_T cc h
theorem xneg_le_F {x y : Int32} {P : Prop} (h : ¬ x ≤ y) (cc : ¬ y < x) : P := xneg_lt_F cc h
theorem xneg_eq_T {x y : Int32} {P : Prop} (h : x = y) (cc : ¬ x = y) : P := absurd h cc
theorem xneg_eq_F {x y : Int32} {P : Prop} (h : ¬ x = y) (cc : x = y) : P := absurd cc h
theorem xneg_ne_T {x y : Int32} {P : Prop} (h : ¬ x = y) (cc : x = y) : P := absurd cc h
theorem xneg_ne_F {x y : Int32} {P : Prop} (h : x = y) (cc : ¬ x = y) : P := absurd h cc
theorem xlg {x : Int64} {P : Prop} (h : ¬ lg_cmp x 0 < 0) (cc : ¬ 0 < lg_cmp x (-1)) : P := by
  have e : (-1 : Int64).toInt = -1 := by decide
  have e0 : (0 : Int64).toInt = 0 := by decide
  have h1 : ¬ (-1 : Int64) < x := fun q => cc (by unfold lg_cmp; rw [if_pos q]; decide)
  have h0 : ¬ (0 : Int64) < x := by rw [Int64.lt_iff_toInt_lt] at h1 ⊢; omega
  have h2 : ¬ x = 0 := fun q => by rw [Int64.lt_iff_toInt_lt, q] at h1; omega
  exact absurd (by unfold lg_cmp; rw [if_neg h0, if_neg h2]; decide) h
theorem vin {i : Int32} {n : Nat} (h : ¬ i < 0 ∧ i.toNatClampNeg < n) : vp_in i n := fun q => q.elim h.1 (fun z => by omega)
theorem xsw {x : Int32} (lo hi : Int) : (x.toInt < lo ∨ hi < x.toInt) ∨ ∃ k : Nat, (k : Int) ≤ hi - lo ∧ x.toInt = lo + (k : Int) := by
  by_cases h : x.toInt < lo ∨ hi < x.toInt
  · exact Or.inl h
  · exact Or.inr ⟨(x.toInt - lo).toNat, by omega, by omega⟩
def xcnt (x : Int32) : Int32 := if x.toInt < 0 ∨ 9 < x.toInt then -1 else 0
theorem xcnt_out {x : Int32} (h : x.toInt < 0 ∨ 9 < x.toInt) : xcnt x = -1 := if_pos h
theorem xcnt_in {x : Int32} {k : Nat} (h : x.toInt = 0 + (k : Int)) (hk : k < 10) : xcnt x = 0 := if_neg (by omega)
theorem xlt {N i : Nat} (h : ¬ nI N ≤ nI i) (hi : i < 2 ^ 31) (hN : N < 2 ^ 31) : i < N := by rw [nI_leI hN hi] at h; omega
theorem xL6 {L : Nat} (h : L < 6) : Int32.ofNat L - 6 < 0 := by
  rcases (show L = 0 ∨ L = 1 ∨ L = 2 ∨ L = 3 ∨ L = 4 ∨ L = 5 by omega) with rfl | rfl | rfl | rfl | rfl | rfl <;> decide
/-- the two constants' rows, which nothing writes -/
def sX (t1 t2 : Nat) (A : Nat → Prop) (U : State) : Prop := va_Z "ProofLibrary" "PROVABLE_NAME" "[C" (.ref t1) A U U.heap ∧ va_Z "ProofLibrary" "WFF_NAME" "[C" (.ref t2) A U U.heap ∧ va_T .char t1 2 (fun j => .int (([124, 45] : List Int32).getD j 0)) A U U.heap ∧ va_T .char t2 3 (fun j => .int (([119, 102, 102] : List Int32).getD j 0)) A U U.heap
theorem sX_bl {t1 t2 : Nat} {A : Nat → Prop} : xBl (sX t1 t2 A) := fun U k mk a h => ⟨va_Z.moved (u := U) (U := U.calling k mk a) (Vm.Alike.refl U.vm) h.1, va_Z.moved (u := U) (U := U.calling k mk a) (Vm.Alike.refl U.vm) h.2.1, va_T.moved (u := U) (U := U.calling k mk a) (Vm.Alike.refl U.vm) h.2.2.1, va_T.moved (u := U) (U := U.calling k mk a) (Vm.Alike.refl U.vm) h.2.2.2⟩
theorem sX_call {t1 t2 : Nat} {A : Nat → Prop} {s : State} {H : Heap} {locs : List Loc} {wc : va_W} (h : sX t1 t2 A s) (hS : va_S A s.heap H locs) (hF : ∀ q, va_A wc H.size q → A q) : ∀ U : State, U.heap = H → s.WarmedH U.vm → sX t1 t2 (va_A wc H.size) U := by
  intro U hU hW
  unfold sX
  rw [hU]
  exact ⟨((h.1.moved hW.alike).kept hS.2.1).narrow hF, ((h.2.1.moved hW.alike).kept hS.2.1).narrow hF, ((h.2.2.1.moved hW.alike).kept hS.2.1).narrow hF, ((h.2.2.2.moved hW.alike).kept hS.2.1).narrow hF⟩
