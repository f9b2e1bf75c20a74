/-! THE CLAIM OUT OF ONE WALK OF THE LAW'S BODY. Your part is whole_start (and what it stands on); all else here is the same for every law, but numbers. -/
def R_law : String := "ProofLibraryLaw"
def lw_P (b : Addr) (xs : List Int32) (args : Array Value) (s : State) : Prop := args = #[.ref b] ∧ s.IntsAt b xs ∧ xs.length ≤ 3072 ∧ (Jvm.Cond.and given_1 narrow_1).before args s = true
def lw_Q (_ : Array Value) (s : State) (o : Outcome) (t : State) : Prop := o = .returned (some (.int 1)) ∧ Framed s o t [] 139280 8684410
def lw_Z (below : List Frame) (a : Array Value) (s : State) : State → Prop := fun t => ∃ o, t.status = .running ∧ Ended t below o ∧ lw_Q a s o t
/-- the law's own end, with 1 on the stack, nothing written that was there before, its room as the claim has it -/
theorem lw_ret {p : Program} {l : Launch} {e : Env} {s : State} {m : MethodId} {below : List Frame} {meth : Method} {c : Code} {b : Nat} (hx : p.tables.exec = Jvm.exec) (hb : c.code = code) (hr : meth.sig.returnType = ret) (hlocks : meth.locks = false) {pc : Nat} {H : Heap} {ls : Array Slot} (hdg : decode code pc = .ok (.ireturn, 1)) : W p l e room_1 s m #[Value.ref b] below meth c H [] 139280 8684410 (lw_Z below #[Value.ref b] s) (F0 m pc ls [.int 1]) := by
  intro T hT X
  obtain ⟨fs, hret, hrun, hended, hW, hframe⟩ := X.leave (v := some (.int 1)) (hlocks := hlocks) (fun h => by rw [hr] at h; cases h)
  have hmeth' : T.vm.method? m = some meth := X.method'
  refine ⟨T.setFrames fs, ?_, .returned (some (.int 1)), hrun, hended, rfl, ⟨_, rfl⟩, hW, hframe⟩
  jvm_step X.here [X.here.top, hx, hb, hdg, hmeth', hr, ret, narrow_b1]
  (try refine ⟨rfl, ?_⟩); (try refine ⟨rfl, ?_⟩)
  first | (intro acts; rw [hret _ acts rfl rfl rfl]) | rw [hret _ _ rfl rfl rfl]
  exact Steps.refl _
/-- what holds at the law's entry: the machine, the code, the tables' words (any of lw_tbl by 'hts w (by decide +kernel)'), the script of L ints xs at the cell b, what the Statement gives of the start (any of its parts by flat_of_before) -/
def lw_At (p : Program) (s : State) (m : MethodId) (meth : Method) (c : Code) (b L : Nat) (xs : Nat → Int32) : Prop :=
  p.tables.exec = Jvm.exec ∧ c.code = code ∧ meth.sig.returnType = ret ∧ c.maxLocals = 4 ∧ s.vm.findClass R_law = some m.cls ∧ (∀ w ∈ lw_tbl, w.before #[Value.ref b] s = true) ∧ va_X b L xs s s.heap ∧ b < s.heap.size ∧ meth.locks = false ∧ (Jvm.Cond.and given_1 narrow_1).before #[Value.ref b] s = true
/-- the classes are known -/
theorem g_known {s : State} {args : Array Value} (hts : ∀ w ∈ TB, w.before args s = true) : ∃ g : gG, KK g s := by
  obtain ⟨c0, i0, h0⟩ := u_known (C := RX0) (T := TX0) (N := 20) (n := 20) hts inX0 (hts _ tw_225)
  obtain ⟨c1, i1, h1⟩ := u_known (C := RX1) (T := TX1) (N := 18) (n := 18) hts inX1 (hts _ tw_664)
  obtain ⟨c2, i2, h2⟩ := u_known (C := RX2) (T := TX2) (N := 21) (n := 21) hts inX2 (hts _ tw_790)
  obtain ⟨c3, i3, h3⟩ := u_known (C := RX3) (T := TX3) (N := 21) (n := 21) hts inX3 (hts _ tw_31)
  obtain ⟨c4, i4, h4⟩ := u_known (C := RX4) (T := TX4) (N := 19) (n := 19) hts inX4 (hts _ tw_526)
  obtain ⟨c5, i5, h5⟩ := u_known (C := RX5) (T := TX5) (N := 6) (n := 6) hts inX5 (hts _ tw_860)
  obtain ⟨c6, i6, h6⟩ := u_known (C := RX6) (T := TX6) (N := 17) (n := 17) hts inX6 (hts _ tw_338)
  obtain ⟨c7, i7, h7⟩ := u_known (C := RX7) (T := TX7) (N := 13) (n := 13) hts inX7 (hts _ tw_407)
  obtain ⟨c8, i8, h8⟩ := u_known (C := RX8) (T := TX8) (N := 17) (n := 17) hts inX8 (hts _ tw_594)
  obtain ⟨c9, i9, h9⟩ := u_known (C := RX9) (T := TX9) (N := 16) (n := 16) hts inX9 (hts _ tw_157)
  obtain ⟨c10, i10, h10⟩ := u_known (C := RX10) (T := TX10) (N := 21) (n := 21) hts inX10 (hts _ tw_409)
  obtain ⟨c11, i11, h11⟩ := u_known (C := RX11) (T := TX11) (N := 15) (n := 15) hts inX11 (hts _ tw_732)
  obtain ⟨c12, i12, h12⟩ := u_known (C := RX12) (T := TX12) (N := 16) (n := 16) hts inX12 (hts _ tw_22)
  obtain ⟨c13, i13, h13⟩ := u_known (C := RX13) (T := TX13) (N := 170) (n := 170) hts inX13 (hts _ tw_1988)
  obtain ⟨aI, kI, nI⟩ := arr_known (ty := .int) (hts _ tw_154)
  obtain ⟨aC, kC, nC⟩ := arr_known (ty := .char) (hts _ tw_153)
  obtain ⟨aZ, kZ, nZ⟩ := arr_known (ty := .boolean) (hts _ tw_155)
  obtain ⟨aJ, kJ, nJ⟩ := arr_known (ty := .long) (hts _ tw_223)
  refine ⟨((fun k => match k with | 0 => c0 | 1 => c1 | 2 => c2 | 3 => c3 | 4 => c4 | 5 => c5 | 6 => c6 | 7 => c7 | 8 => c8 | 9 => c9 | 10 => c10 | 11 => c11 | 12 => c12 | _ => c13, fun k => match k with | 0 => i0 | 1 => i1 | 2 => i2 | 3 => i3 | 4 => i4 | 5 => i5 | 6 => i6 | 7 => i7 | 8 => i8 | 9 => i9 | 10 => i10 | 11 => i11 | 12 => i12 | _ => i13), (aI, aC, aZ, aJ)), ⟨fun k q hq => ?_, fun k q hq => ?_⟩⟩
  · match k, hq with
    | 0, hq => cases hq; exact h0
    | 1, hq => cases hq; exact h1
    | 2, hq => cases hq; exact h2
    | 3, hq => cases hq; exact h3
    | 4, hq => cases hq; exact h4
    | 5, hq => cases hq; exact h5
    | 6, hq => cases hq; exact h6
    | 7, hq => cases hq; exact h7
    | 8, hq => cases hq; exact h8
    | 9, hq => cases hq; exact h9
    | 10, hq => cases hq; exact h10
    | 11, hq => cases hq; exact h11
    | 12, hq => cases hq; exact h12
    | 13, hq => cases hq; exact h13
    | k + 14, hq => cases hq
  · match k, hq with
    | 0, hq => cases hq; exact ⟨kI, nI⟩
    | 1, hq => cases hq; exact ⟨kC, nC⟩
    | 2, hq => cases hq; exact ⟨kZ, nZ⟩
    | 3, hq => cases hq; exact ⟨kJ, nJ⟩
    | k + 4, hq => cases hq
theorem eq_eval {args : Array Value} {s : State} {t : Term} {z : Int32} (h : (Cond.eq t (.int z)).before args s = true) : t.eval args s none [] s = some (.int z) := by
  cases hv : t.eval args s none [] s with
  | none => simp [Cond.before, Cond.holds, Cond.value, hv] at h
  | some w =>
    have hz : (Term.int z).eval args s none [] s = some (.int z) := rfl
    simp only [Cond.before, Cond.holds, Cond.value, hv, hz] at h
    cases w <;> simp_all
/-- the two constants' rows, as the Statement has them -/
theorem sX_known {s : State} {args : Array Value} (hts0 : ∀ w ∈ lw_tbl, w.before args s = true) (hts : ∀ w ∈ TB, w.before args s = true) (hgv : (Jvm.Cond.and given_1 narrow_1).before args s = true) : ∃ t1 t2 : Nat, sX t1 t2 (fun q : Nat => s.heap.size ≤ q) s := by
  have hs := flat_of_before _ hgv
  have hA : ∀ a : Nat, a < s.heap.size → ¬ (fun q : Nat => s.heap.size ≤ q) a := fun a h q => by dsimp only at q; omega
  obtain ⟨t1, e1, hT1⟩ := va_Tof (tm := .static "ProofLibrary" "PROVABLE_NAME" "[C") (ty := .char) (N := 2) (f := fun j => .int (([124, 45] : List Int32).getD j 0)) (by decide) (hs _ (by decide +kernel)) (eq_eval (z := 2) (hs _ (by decide +kernel))) (fun j hj => by
    rcases (show j = 0 ∨ j = 1 by omega) with rfl | rfl
    · exact eq_eval (z := 124) (hs _ (by decide +kernel))
    · exact eq_eval (z := 45) (hs _ (by decide +kernel))) hA
  obtain ⟨t2, e2, hT2⟩ := va_Tof (tm := .static "ProofLibrary" "WFF_NAME" "[C") (ty := .char) (N := 3) (f := fun j => .int (([119, 102, 102] : List Int32).getD j 0)) (by decide) (hs _ (by decide +kernel)) (eq_eval (z := 3) (hs _ (by decide +kernel))) (fun j hj => by
    rcases (show j = 0 ∨ j = 1 ∨ j = 2 by omega) with rfl | rfl | rfl
    · exact eq_eval (z := 119) (hs _ (by decide +kernel))
    · exact eq_eval (z := 102) (hs _ (by decide +kernel))
    · exact eq_eval (z := 102) (hs _ (by decide +kernel))) hA
  exact ⟨t1, t2, va_Zof (hts0 _ (tb_1 (tc_7 (List.mem_of_getElem? (i := 236) rfl)))) (hts _ tw_1) e1 hA, va_Zof (hts0 _ (tb_1 (tc_8 (List.mem_of_getElem? (i := 3) rfl)))) (hts _ tw_1) e2 hA, hT1, hT2⟩
theorem dL_law_204 : decode cL_law 204 = .ok (.invokevirtual 17, 3) := by decide +kernel
theorem dL_law_207 : decode cL_law 207 = .ok (.pop, 1) := by decide +kernel
theorem dL_law_208 : decode cL_law 208 = .ok (.goto 635, 3) := by decide +kernel
theorem dL_law_229 : decode cL_law 229 = .ok (.if_icmp .eq 614, 3) := by decide +kernel
theorem dL_law_232 : decode cL_law 232 = .ok (.iconst 0, 1) := by decide +kernel
theorem dL_law_233 : decode cL_law 233 = .ok (.ireturn, 1) := by decide +kernel
