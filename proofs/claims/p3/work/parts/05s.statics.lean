-- the two constants' rows, which nothing writes (from p1's facts)
def sX (t1 t2 : Nat) (A : Nat → Prop) (U : State) : Prop := va_Z "ProofLibrary" "PROVABLE_NAME" "[C" (.ref t1) A U U.heap ∧ va_Z "ProofLibrary" "WFF_NAME" "[C" (.ref t2) A U U.heap ∧ va_T .char t1 2 (fun j => .int (([124, 45] : List Int32).getD j 0)) A U U.heap ∧ va_T .char t2 3 (fun j => .int (([119, 102, 102] : List Int32).getD j 0)) A U U.heap
theorem sX_bl {t1 t2 : Nat} {A : Nat → Prop} : xBl (sX t1 t2 A) := fun U k mk a h => ⟨va_Z.moved (u := U) (U := U.calling k mk a) (Vm.Alike.refl U.vm) h.1, va_Z.moved (u := U) (U := U.calling k mk a) (Vm.Alike.refl U.vm) h.2.1, va_T.moved (u := U) (U := U.calling k mk a) (Vm.Alike.refl U.vm) h.2.2.1, va_T.moved (u := U) (U := U.calling k mk a) (Vm.Alike.refl U.vm) h.2.2.2⟩
theorem sX_call {t1 t2 : Nat} {A : Nat → Prop} {s : State} {H : Heap} {locs : List Loc} {wc : va_W} (h : sX t1 t2 A s) (hS : va_S A s.heap H locs) (hF : ∀ q, va_A wc H.size q → A q) : ∀ U : State, U.heap = H → s.WarmedH U.vm → sX t1 t2 (va_A wc H.size) U := by
  intro U hU hW
  unfold sX
  rw [hU]
  exact ⟨((h.1.moved hW.alike).kept hS.2.1).narrow hF, ((h.2.1.moved hW.alike).kept hS.2.1).narrow hF, ((h.2.2.1.moved hW.alike).kept hS.2.1).narrow hF, ((h.2.2.2.moved hW.alike).kept hS.2.1).narrow hF⟩
section ST5
variable {p : Program} {l : Launch} {e : Env} {R : Room} {s : State} {m : MethodId} {args : Array Value} {below : List Frame} {meth : Method} {c : Code} {H H0 : Heap} {locs : List Loc} {cells slots : Nat} {Q : State → Prop} {g : gG} {A : Nat → Prop} {q : Nat → Nat} {lb : Nat} {σ : S0} {pc : Nat} {ls : Array Slot} {rest st0 : List Value} {cc : ByteArray}
def t_1 (i : Int) : Int := if i = 0 then 124 else if i = 1 then 45 else 0
theorem t_1_rg (i : Int) : rg (t_1 i) := by
  unfold t_1
  repeat' split
  all_goals decide
theorem ld_t1 (hx : p.tables.exec = Jvm.exec) (hb : c.code = cc) {t1 t2 : Nat} (hX : sX t1 t2 A s) (hS : va_S A s.heap H locs) {i : Int} (h : 0 ≤ i ∧ i < 2) (hdg : decode cc pc = .ok (.caload, 1)) (kk : ∀ x : Int, rg x → x = t_1 i → W p l e R s m args below meth c H locs cells slots Q (F0 m (pc + 1) ls (.int (I x) :: rest))) : W p l e R s m args below meth c H locs cells slots Q (F0 m pc ls (.int (I i) :: .ref t1 :: rest)) :=
  va_tc hx hb hX.2.2.1 hS (I_in h.1 h.2 (by decide)) (v := .int (I (t_1 i))) (by rcases (show i = 0 ∨ i = 1 by omega) with rfl | rfl <;> rfl) hdg (kk _ (t_1_rg i) rfl)
def t_2 (i : Int) : Int := if i = 0 then 119 else if i = 1 then 102 else if i = 2 then 102 else 0
theorem t_2_rg (i : Int) : rg (t_2 i) := by
  unfold t_2
  repeat' split
  all_goals decide
theorem ld_t2 (hx : p.tables.exec = Jvm.exec) (hb : c.code = cc) {t1 t2 : Nat} (hX : sX t1 t2 A s) (hS : va_S A s.heap H locs) {i : Int} (h : 0 ≤ i ∧ i < 3) (hdg : decode cc pc = .ok (.caload, 1)) (kk : ∀ x : Int, rg x → x = t_2 i → W p l e R s m args below meth c H locs cells slots Q (F0 m (pc + 1) ls (.int (I x) :: rest))) : W p l e R s m args below meth c H locs cells slots Q (F0 m pc ls (.int (I i) :: .ref t2 :: rest)) :=
  va_tc hx hb hX.2.2.2 hS (I_in h.1 h.2 (by decide)) (v := .int (I (t_2 i))) (by rcases (show i = 0 ∨ i = 1 ∨ i = 2 by omega) with rfl | rfl | rfl <;> rfl) hdg (kk _ (t_2_rg i) rfl)
def h_s (e : Int) : Int := (I e).toInt
def h_u (a k : Int) : Int := ((I a).toUInt32 >>> ((I k).toUInt32 &&& Int32.toUInt32 31)).toInt32.toInt
def h_x (a b : Int) : Int := (I a ^^^ I b).toInt
def h_a (a b : Int) : Int := (I a &&& I b).toInt
def h_l2 (x : Int64) : Int := x.toInt32.toInt
theorem bi_hve {x : Int32} (kk : ∀ z : Int, rg z → z = x.toInt → W p l e R s m args below meth c H locs cells slots Q (F0 m pc ls (.int (I z) :: rest))) : W p l e R s m args below meth c H locs cells slots Q (F0 m pc ls (.int x :: rest)) := by
  obtain ⟨z, r, rfl⟩ := I_of x
  exact kk z r (I_toInt r.1 r.2).symm
end ST5
