-- by hand: more room for the bodies; calls whose room is told with their result
section RM
def MQ2 (below : List Frame) (Qc : Nat → Nat → Array Value → State → Outcome → State → Prop) (a : Array Value) (s : State) (mc ms : Nat) (free : Addr → Prop) : State → Prop := fun t => ∃ k n : Nat, k ≤ mc ∧ n ≤ ms ∧ MQ below (Qc k n) a s k n free t
def Qc2 (Qc : Nat → Nat → Array Value → State → Outcome → State → Prop) (mc ms : Nat) (free : Addr → Prop) : Array Value → State → Outcome → State → Prop := fun a st o t => ∃ k n : Nat, k ≤ mc ∧ n ≤ ms ∧ Qc k n a st o t ∧ ∃ L, FrameEnd st o t L k n ∧ ∀ q ∈ L, free q.base
theorem fe_m {s t : State} {o : Outcome} {L : List Loc} {k n mc ms : Nat} (h : FrameEnd s o t L k n) (h1 : k ≤ mc) (h2 : n ≤ ms) : FrameEnd s o t L mc ms := ⟨h.1, h.2.1, h.2.2.mono h1 h2⟩
theorem MQ2_q {below : List Frame} {Qc : Nat → Nat → Array Value → State → Outcome → State → Prop} {a : Array Value} {s : State} {mc ms : Nat} {free : Addr → Prop} {t : State} (h : MQ2 below Qc a s mc ms free t) : MQ below (Qc2 Qc mc ms free) a s mc ms free t := by
  obtain ⟨k, n, h1, h2, o, a1, a2, a3, L, a4, a5⟩ := h
  exact ⟨o, a1, a2, ⟨k, n, h1, h2, a3, L, a4, a5⟩, L, fe_m a4 h1 h2, a5⟩
variable {p : Program} {l : Launch} {e : Env} {R : Room} {s : State} {m : MethodId} {args : Array Value} {below : List Frame} {meth : Method} {c : Code} {H H0 : Heap} {locs : List Loc} {cells slots mc ms : Nat} {Q Q' : State → Prop}
theorem W_mono {g : JFrame} (h : ∀ t, Q t → Q' t) (w : W p l e R s m args below meth c H locs cells slots Q g) : W p l e R s m args below meth c H locs cells slots Q' g := fun T hT X => by
  obtain ⟨t, a, b⟩ := w T hT X
  exact ⟨t, a, h t b⟩
theorem mkMet2 {y : MethodName} {b : ByteArray} {n : Nat} {ret : Option FieldType} {rm : Room} {g : gG} {av : List Value} {ws : va_W} {sz : Nat} {X : State → Prop} {Qc : (Nat → Prop) → Nat → Nat → Array Value → State → Outcome → State → Prop} (hy : plainName y.cls = true) (hn : (lg_sl av).length ≤ n)
    (body : ∀ (p : Program) (e : Env) (s : State) (m : MethodId) (below : List Frame) (meth : Method) (c : Code) (A : Nat → Prop) (H : Heap) (ls : Array Slot), p.tables.exec = Jvm.exec → c.code = b → meth.sig.returnType = ret → c.maxLocals = n → s.vm.findClass y.cls = some m.cls → (∀ w ∈ TB, w.before av.toArray s = true) → meth.locks = false → meth.name = y.name → s.heap.size = sz → KP g ws H → KK g s → nbOK s → va_D A ws → (∀ q, s.heap.size ≤ q → A q) → A = va_A ws sz → va_S A s.heap H [] → X s → lv_has ls n (lv_args 0 av) → W p l e rm s m av.toArray below meth c H [] 0 0 (MQ2 below (Qc A) av.toArray s mc ms A) (F0 m 0 ls [])) :
    Met l y (wd y b n ret) rm (va_Pc av (cP g ws sz X)) (Qc2 (Qc (va_A ws sz)) mc ms (va_A ws sz)) mc ms (va_A ws sz) :=
  mkMet (Qc := fun A => Qc2 (Qc A) mc ms A) hy hn (fun p e s m below meth c A H ls h1 h2 h3 h4 h5 h6 h7 h8 h9 h10 h11 h12 h13 h14 h15 h16 h17 h18 => W_mono (fun t => MQ2_q) (body p e s m below meth c A H ls h1 h2 h3 h4 h5 h6 h7 h8 h9 h10 h11 h12 h13 h14 h15 h16 h17 h18))
def Post2 (Qc : Nat → Nat → Array Value → State → Outcome → State → Prop) (mc ms : Nat) (free : Addr → Prop) : Pt → Array Value → Option Value → Pt → Prop := fun A a v B =>
  ∃ (g : JFrame) (mk : MethodId) (t : State) (L : List Loc) (k n : Nat), (k ≤ mc ∧ n ≤ ms) ∧ B.U.heap = t.heap ∧ B.U.vm = t.vm ∧ Qc k n a (A.U.calling g mk a) (.returned v) t ∧ B.locs = A.locs ++ L ∧ (∀ q ∈ L, free q.base) ∧ B.cells = A.cells + k ∧ B.slots = A.slots + n
theorem back2 {y : MethodName} {own : String} {index maxL n : Nat} {bytes : ByteArray} {ret : Option FieldType} {ws : List Cond} {rm : Room} {Pc : Array Value → State → Prop} {Qc : Nat → Nat → Array Value → State → Outcome → State → Prop} {free : Addr → Prop} (cb : CallB R s args own index y bytes maxL ret ws rm mc ms n) (hM : Met l y ws rm Pc (Qc2 Qc mc ms free) mc ms free) (hbl : FrameBlind Pc) : Back l R p e below s args y 3 8 (PreOf R mc ms Pc) (Post2 Qc mc ms free) := by
  obtain ⟨hrc, hrs, hfr, hlo, hws, hcw, -, hini, -⟩ := cb
  have hin : ∀ (a' : Array Value) (U : State), s.WarmedH U.vm → (Cond.initialized y.cls).before a' U = true := fun a' U hW => word_at hW (Or.inl (by first | rfl | simp [Cond.onTables, Cond.keeps, Cond.steady])) hini
  refine Back.of_free (S := headSpec ws rm) (P := Pc) (K := fun _ _ _ _ _ => True) (Q := fun a st o t => Qc2 Qc mc ms free a st o t ∧ ∃ L, FrameEnd st o t L mc ms ∧ ∀ q ∈ L, free q.base) (bytes := bytes) (maxL := maxL) (ret := ret)
    (E := fun a st o t L k n => (k ≤ mc ∧ n ≤ ms) ∧ Qc k n a st o t ∧ ∀ q ∈ L, free q.base) hM hfr hlo ?_ ?_ (fun _ _ _ _ _ _ _ _ _ => trivial) ?_ ?_
  · intro m meth c A a X hp
    exact ⟨atoms_intro fun w hw => hws w hw _ _ X.warmed, hws _ hcw _ _ X.warmed, hin _ _ X.warmed, by rw [show (headSpec ws rm).room.cells = mc from hrc]; exact hp.1, by rw [show (headSpec ws rm).room.slots = ms from hrs]; exact hp.2.1⟩
  · intro m meth c A a g mk X hp
    exact hbl _ _ _ _ hp.2.2
  · intro a st o t h
    obtain ⟨⟨k, n, h1, h2, hq, L, hF, hL⟩, _⟩ := h
    exact ⟨L, k, n, hF, ⟨h1, h2⟩, hq, hL⟩
  · intro m meth c A a g mk v t L k n X hp hq hF hE
    obtain ⟨h1, h2, h3⟩ := hE
    exact ⟨g, mk, t, L, k, n, h1, rfl, rfl, h2, rfl, h3, rfl, rfl⟩
/-- a call of such a method -/
def Run2 (p : Program) (l : Launch) (e : Env) (R : Room) (s : State) (m : MethodId) (args : Array Value) (below : List Frame) (meth : Method) (c : Code) (H : Heap) (locs : List Loc) (cells slots mc ms : Nat) (g : JFrame) (rest : List Value) (Qa : Nat → Nat → State → Outcome → State → Prop) (free : Addr → Prop) : Prop :=
  ∀ T : State, T.heap = H → Stand p l e R s m args below meth c T locs cells slots → ∃ (v : Option Value) (st₀ t T' : State) (L : List Loc) (k n : Nat), (k ≤ mc ∧ n ≤ ms) ∧ st₀.heap = H ∧ Stand p l e R s m args below meth c T' (locs ++ L) (cells + k) (slots + n) ∧ (∀ q ∈ L, free q.base) ∧ T'.heap = t.heap ∧ T'.vm = t.vm ∧ Qa k n st₀ (.returned v) t ∧
    ∀ target, Steps p.tables e below (T'.setTop { g with pc := g.pc + 3, stack := v.toList ++ rest }) target → Steps p.tables e below (T.setTop g) target
variable {y : MethodName} {bytes cc : ByteArray} {maxL nL n index : Nat} {ret : Option FieldType} {ws : List Cond} {rm : Room} {Pc : Array Value → State → Prop} {Qc : Nat → Nat → Array Value → State → Outcome → State → Prop} {free : Addr → Prop} {Ts : List Cond} {own C : String} {b : Addr} {As rest : List Value} {g : JFrame}
theorem run2V (S : CallFix p m c cc nL s args Ts own) (hM : Met l y ws rm Pc (Qc2 Qc mc ms free) mc ms free) (cw : CallW R s args own C index y bytes maxL ret ws rm mc ms n) (hp : PreV s H C b Pc As)
    (hg : g.method = m) (hn : As.length = n) (hsize : g.locals.size = nL) (hstack : g.stack = As.reverse ++ .ref b :: rest) (hW : 2 * g.monitorRoom + (rest.map fun v => v.category).sum ≤ 8) (hdg : decode cc g.pc = .ok (.invokevirtual index, 3)) (hf : cells + mc ≤ R.cells ∧ slots + ms ≤ R.slots) :
    Run2 p l e R s m args below meth c H locs cells slots mc ms g rest (fun k n => Qc k n (Value.ref b :: As).toArray) free := by
  have hK : Back l R p e below s args y 3 8 (PreOf R mc ms Pc) (Post2 Qc mc ms free) := back2 cw.1 hM hp.1
  obtain ⟨⟨-, -, -, -, -, -, hcode, -, hy, hlen, hl⟩, hin, hse⟩ := cw
  obtain ⟨hx, hb, hml, ho, -⟩ := S
  obtain ⟨-, ⟨cellB, hcB, hoB, hclB⟩, hPc⟩ := hp
  intro T hT X
  obtain ⟨v, vm₁, ⟨U', l2, c2, s2⟩, hW₁, X', ⟨g', mk, t, L, k, n', hkn, e1, e2, hq, h1, hL, h2, h3⟩, st⟩ := callV X hx (C := C) (bytes := bytes) (maxL := maxL) (ret := ret) ho hl hin hse hcode hy hK (by rw [hT]; exact hcB) hoB hclB hg (hsize.trans hml.symm) (argsL := As) (rest := rest) (fun sig h => hn.trans (hlen sig h)) hstack hW (by rw [hb]; exact hdg)
    (fun vm₁ hW₁ => ⟨hf.1, hf.2, hPc (T.setVm vm₁) hT hW₁⟩)
  dsimp only [Pt.U, Pt.locs, Pt.cells, Pt.slots] at X' e1 e2 h1 h2 h3 st
  subst h1; subst h2; subst h3
  exact ⟨v, (T.setVm vm₁).calling g' mk (Value.ref b :: As).toArray, t, U', L, k, n', hkn, hT, X', hL, e1, e2, hq, st⟩
theorem call2v {St : Type} {post : Nat → Nat → St → Prop} {B : St → State → Prop} {A0 A1 : Nat → Prop} {a : Array Value} {pc : Nat} {ls : Array Slot} {st0 : List Value} (hr : Run2 p l e R s m args below meth c H locs cells slots mc ms (F0 m pc ls st0) rest (fun k n => va_Qv (post k n) B A1 a) free) (hS : va_S A0 H0 H locs) (hA : ∀ q, q < H.size → A1 q → A0 q) (hf : ∀ q, free q → A0 q)
    (kk : ∀ (k n : Nat) (u : St) (t : State) (H1 : Heap) (locs1 : List Loc), k ≤ mc → n ≤ ms → t.heap = H1 → s.vm.Alike t.vm → post k n u → B u t → H.size ≤ H1.size → (∀ q : Nat, q < H.size → ¬ A1 q → H1[q]? = H[q]?) → va_S A0 H0 H1 locs1 → W p l e R s m args below meth c H1 locs1 (cells + k) (slots + n) Q (F0 m (pc + 3) ls rest)) : W p l e R s m args below meth c H locs cells slots Q (F0 m pc ls st0) := by
  intro T hT X
  obtain ⟨v, st₀, t, T', L, k, n', hkn, h0, X', hL, e1, e2, ⟨⟨u, hv, hp, hb⟩, hz, hk⟩, st⟩ := hr T hT X
  cases hv
  rw [h0] at hz hk
  obtain ⟨t2, a1, b1⟩ := kk k n' u t T'.heap (locs ++ L) hkn.1 hkn.2 e1.symm (by rw [← e2]; exact X'.warmed.alike) hp hb (by rw [e1]; exact hz) (fun q h1 h2 => by rw [e1]; exact hk q h1 h2)
    ⟨Nat.le_trans hS.1 (by rw [e1]; exact hz), fun q h1 h2 => by rw [e1, hk q (Nat.lt_of_lt_of_le h1 hS.1) (fun z => h2 (hA q (Nat.lt_of_lt_of_le h1 hS.1) z))]; exact hS.2.1 q h1 h2, fun q hq => by
      rcases List.mem_append.mp hq with h | h
      · exact hS.2.2 q h
      · exact hf _ (hL q h)⟩ T' rfl X'
  exact ⟨t2, st t2 a1, b1⟩
end RM
def QR2 (g : gG) (A : Nat → Prop) (post : va_W × Nat → Prop) : Array Value → State → Outcome → State → Prop := va_Qr post (fun (u : va_W × Nat) a t => u.2 = a ∧ cB g A u.1 t) A
/-- the row that arraycopy makes of an array of zeros -/
def c_gr (lb : Nat) (f : Int → Int) : Int → Int := c_py f (fun _ => 0) 0 0 (lb : Int)
theorem CX_len {g : gG} {q : Nat → Nat} {lb : Nat} {σ : S0} : (CX g q lb σ).length = 125 := rfl
theorem I_len {n : Nat} : Int32.ofNat n = I (n : Int) := rfl
set_option maxRecDepth 100000 in
set_option maxHeartbeats 4000000 in
theorem L_J7_copyOf (l : Launch) (g : gG) (q : Nat → Nat) (lb N : Nat) (hlb : lb < N) (hN2 : N ≤ 1048576) {σ : S0} (hN : n_m σ) (sz : Nat) : Met l yJ7_copyOf_59c91 (wd yJ7_copyOf_59c91 cJ7_copyOf_59c91 3 (some (.array .int))) { frames := 1, cells := 1, slots := N, locals := 90 } (va_Pc [.ref (q 119), .int (I (N : Int))] (cP g (CX g q lb σ) sz xT)) (QR2 g (va_A (CX g q lb σ) sz) (fun u => u.1 = CX g q lb σ ++ [(u.2, .inl (kI g, N, .inl (fun j => I (c_gr lb (σ.2.1 97) (j : Int)))))])) 1 N (va_A (CX g q lb σ) sz) := by
  refine mkMet (y := yJ7_copyOf_59c91) (b := cJ7_copyOf_59c91) (n := 3) (ret := some (.array .int)) (av := [.ref (q 119), .int (I (N : Int))]) (ws := CX g q lb σ) (sz := sz) (X := xT) (Qc := fun A => QR2 g A (fun u => u.1 = CX g q lb σ ++ [(u.2, .inl (kI g, N, .inl (fun j => I (c_gr lb (σ.2.1 97) (j : Int)))))])) (by decide) (Nat.le_of_ble_eq_true rfl) ?_
  intro p e s m below meth c A H ls hx hb hr hml hown hts hlk hnm hsz hP hK hNb hD hA hAe hS hX hl
  have hl : lv_has ls 3 [(0, .ref (q 119)), (1, .int (I (N : Int)))] := hl
  obtain ⟨locs, hlocs⟩ : ∃ z : List Loc, z = [] := ⟨_, rfl⟩
  rw [← hlocs] at hS ⊢
  have rN : rg (N : Int) := ⟨by omega, by omega⟩
  have rb : rg (lb : Int) := ⟨by omega, by omega⟩
  refine lv_iload_n hx hb dJ7_copyOf_59c91_0 rfl (lv_at hl 1 rfl) ?_
  refine lv_aload_n hx hb dJ7_copyOf_59c91_1 rfl (lv_at hl 0 rfl) ?_
  refine va_alen hx hb hK hP 119 0 rfl rfl (v := I (lb : Int)) I_len dJ7_copyOf_59c91_2 ?_
  refine bi_icmp_ne (tgt := 14) hx hb rN rb dJ7_copyOf_59c91_3 (by decide) (fun c5 => ?_) (fun c5 => absurd c5 (by omega))
  refine lv_iload_n hx hb dJ7_copyOf_59c91_14 rfl (lv_at hl 1 rfl) ?_
  refine xnewa hx hb (atype := .int) (ty := .int) (hts _ tw_154) rfl hK 0 rfl (fun h => h) hP hD hS hA (N' := N) (a0 := (N, .inl (fun _ => 0))) (fun _ => rfl) (by rw [I_0, I_lt rN (by decide)]; omega) (by rw [I_nc (by omega) rN.2]; omega) (by show N * 4 ≤ _; omega) (Nat.le_of_ble_eq_true rfl) (Nat.le_of_eq (Nat.zero_add N)) dJ7_copyOf_59c91_15 (fun ra H hP hD hS => ?_)
  refine lv_astore_n hx hb dJ7_copyOf_59c91_17 rfl hl (by decide) rfl (fun ls hl => ?_)
  refine lv_aload_n hx hb dJ7_copyOf_59c91_18 rfl (lv_at hl 1 rfl) ?_
  refine lv_iconst (v := I 0) hx hb dJ7_copyOf_59c91_19 rfl ?_
  refine lv_aload_n hx hb dJ7_copyOf_59c91_20 rfl (lv_at hl 0 rfl) ?_
  refine lv_iconst (v := I 0) hx hb dJ7_copyOf_59c91_21 rfl ?_
  refine lv_aload_n hx hb dJ7_copyOf_59c91_22 rfl (lv_at hl 1 rfl) ?_
  refine va_alen hx hb hK hP 119 0 rfl rfl (v := I (lb : Int)) I_len dJ7_copyOf_59c91_23 ?_
  refine lv_iload_n hx hb dJ7_copyOf_59c91_24 rfl (lv_at hl 2 rfl) ?_
  refine bi_mmin hx hb (by rw [hml]; exact hl.1.symm) hown (hts _ tw_1885) (hts _ tw_1712) (hts _ tw_16) (hts _ tw_1713) (Nat.le_of_ble_eq_true rfl) (Nat.le_of_ble_eq_true rfl) (Nat.le_of_ble_eq_true rfl) (Nat.le_of_eq (Nat.zero_add N)) rb rN dJ7_copyOf_59c91_25 (fun z rz z1 z2 z3 => ?_)
  obtain rfl : z = (lb : Int) := by omega
  refine wr_cpy hx hb (by rw [hml]; exact hl.1.symm) hown (hts _ tw_1886) (hts _ tw_1297) (hts _ tw_1296) (hts _ tw_17) hK hP hD hS 119 125 (f := σ.2.1 97) (h := fun _ => 0) rfl rfl (sp := 0) (dp := 0) (by decide) (by decide) rb (by decide) (by decide) (by omega) (by omega) (by omega) (Nat.le_of_ble_eq_true rfl) (show _ ≤ 90 by decide) dJ7_copyOf_59c91_28 (ws' := CX g q lb σ ++ [(ra, .inl (kI g, N, .inl (fun j => I (c_gr lb (σ.2.1 97) (j : Int)))))]) rfl (fun H locs hP hD hS => ?_)
  refine lv_aload_n hx hb dJ7_copyOf_59c91_31 rfl (lv_at hl 0 rfl) ?_
  refine W.widen (k := 1) (n := N) (Nat.le_refl _) (Nat.le_of_eq (Nat.zero_add N)) ?_
  exact W.aret hx hb hr (Or.inr ⟨_, rfl⟩) (Or.inr ⟨_, rfl⟩) (fun t ht hW => ⟨⟨(CX g q lb σ ++ [(ra, .inl (kI g, N, .inl (fun j => I (c_gr lb (σ.2.1 97) (j : Int)))))], ra), ra, rfl, rfl, rfl, by rw [← ht] at hP; exact hP, va_K.moved hW.alike hK, hD⟩, hS.F ht⟩) hS.2.2 dJ7_copyOf_59c91_32 hlk
def qn (q : Nat → Nat) (ra : Nat) : Nat → Nat := fun i => if i = 119 then ra else q i
section GR
variable {p : Program} {l : Launch} {e : Env} {R : Room} {s : State} {m : MethodId} {args : Array Value} {below : List Frame} {meth : Method} {c : Code} {H H0 : Heap} {locs : List Loc} {cells slots : Nat} {Q : State → Prop} {g : gG} {A : Nat → Prop} {pc : Nat} {ls : Array Slot} {rest : List Value} {cc : ByteArray} {q : Nat → Nat} {lb N ra : Nat} {σ : S0} {f : Int → Int}
set_option maxRecDepth 100000 in
set_option maxHeartbeats 4000000 in
theorem pf_grow (hx : p.tables.exec = Jvm.exec) (hb : c.code = cc) (hts : ∀ w ∈ TB, w.before args s = true) (hK : KK g s) (hP : KP g (CX g q lb σ ++ [(ra, .inl (kI g, N, .inl (fun j => I (f (j : Int)))))]) H) (hD : va_D A (CX g q lb σ ++ [(ra, .inl (kI g, N, .inl (fun j => I (f (j : Int)))))])) (hS : va_S A H0 H locs) {own : String} {idx : Nat} (hown : s.vm.findClass own = some m.cls) (hl : (Cond.fieldLink own idx RX2 (TX2 14).2.1 (TX2 14).2.2.1).before args s = true) (hdg : decode cc pc = .ok (.putfield idx, 3))
    (kk : ∀ (H1 : Heap) (locs1 : List Loc), KP g (CX g (qn q ra) N (s_f σ 97 f)) H1 → va_D A (CX g (qn q ra) N (s_f σ 97 f)) → va_S A H0 H1 locs1 → W p l e R s m args below meth c H1 locs1 cells slots Q (F0 m (pc + 3) ls rest)) : W p l e R s m args below meth c H locs cells slots Q (F0 m pc ls (.ref ra :: .ref (q 11) :: rest)) := by
  refine va_put (D := g.1) (ci := 2) (v := .ref ra) (ty := .array .int) (C := RX2) (T := TX2) (N := 21) hx hb hts inX2 tyX2 tyX2_ok nmX2 hown hK hP hD hS 11 rfl rfl 14 (by decide) hl (fun _ h9 => h9) rfl (by decide +kernel) rfl rfl (Nat.le_of_ble_eq_true rfl) hdg (fun H1 locs1 hP hD hS => ?_)
  exact kk H1 locs1 (hP.sub [0, 1, 2, 3, 4, 5, 6, 7, 8, 9, 10, 11, 12, 13, 14, 15, 16, 17, 18, 19, 20, 21, 22, 23, 24, 25, 26, 27, 28, 29, 30, 31, 32, 33, 34, 35, 36, 37, 38, 39, 40, 41, 42, 43, 44, 45, 46, 47, 48, 49, 50, 51, 52, 53, 54, 55, 56, 57, 58, 59, 60, 61, 62, 63, 64, 65, 66, 67, 68, 69, 70, 71, 72, 73, 74, 75, 76, 77, 78, 79, 80, 81, 82, 83, 84, 85, 86, 87, 88, 89, 90, 91, 92, 93, 94, 95, 96, 97, 98, 99, 100, 101, 102, 103, 104, 105, 106, 107, 108, 109, 110, 111, 112, 113, 114, 115, 116, 117, 118, 125, 120, 121, 122, 123, 124] rfl) (hD.sub [0, 1, 2, 3, 4, 5, 6, 7, 8, 9, 10, 11, 12, 13, 14, 15, 16, 17, 18, 19, 20, 21, 22, 23, 24, 25, 26, 27, 28, 29, 30, 31, 32, 33, 34, 35, 36, 37, 38, 39, 40, 41, 42, 43, 44, 45, 46, 47, 48, 49, 50, 51, 52, 53, 54, 55, 56, 57, 58, 59, 60, 61, 62, 63, 64, 65, 66, 67, 68, 69, 70, 71, 72, 73, 74, 75, 76, 77, 78, 79, 80, 81, 82, 83, 84, 85, 86, 87, 88, 89, 90, 91, 92, 93, 94, 95, 96, 97, 98, 99, 100, 101, 102, 103, 104, 105, 106, 107, 108, 109, 110, 111, 112, 113, 114, 115, 116, 117, 118, 125, 120, 121, 122, 123, 124] rfl rfl) hS
end GR
section GR2
variable {p : Program} {l : Launch} {e : Env} {R : Room} {s : State} {m : MethodId} {args : Array Value} {below : List Frame} {meth : Method} {c : Code} {H H0 : Heap} {locs : List Loc} {cells slots : Nat} {Q : State → Prop} {g : gG} {A : Nat → Prop} {pc nL : Nat} {ls : Array Slot} {rest : List Value} {cc : ByteArray} {q : Nat → Nat} {lb N : Nat} {σ : S0} {lv : List (Nat × Value)}
set_option maxRecDepth 100000 in
set_option maxHeartbeats 4000000 in
theorem wc_grow (hx : p.tables.exec = Jvm.exec) (hb : c.code = cc) (hml : c.maxLocals = nL) (hown : s.vm.findClass "ProofLibrary$Definitions" = some m.cls) (hts : ∀ w ∈ TB, w.before args s = true) (hK : KK g s) (hNb : nbOK s) (hP : KP g (CX g q lb σ) H) (hD : va_D A (CX g q lb σ)) (hS : va_S A H0 H locs) (hA : ∀ q, H0.size ≤ q → A q) (hN : n_m σ) (hlb : lb < N) (hN2 : N ≤ 1048576) (hl : lv_has ls nL lv) (hW : (rest.map fun v => v.category).sum ≤ 8) (hfr : 2 ≤ R.frames) (hlo : 112 ≤ R.locals) (hc : cells + 1 ≤ R.cells) (hs : slots + N ≤ R.slots) (hdg : decode cc pc = .ok (.invokestatic 194, 3))
    (kk : ∀ (ra : Nat) (H1 : Heap) (locs1 : List Loc), KP g (CX g q lb σ ++ [(ra, .inl (kI g, N, .inl (fun j => I (c_gr lb (σ.2.1 97) (j : Int)))))]) H1 → va_D A (CX g q lb σ ++ [(ra, .inl (kI g, N, .inl (fun j => I (c_gr lb (σ.2.1 97) (j : Int)))))]) → va_S A H0 H1 locs1 → W p l e R s m args below meth c H1 locs1 (cells + 1) (slots + N) Q (F0 m (pc + 3) ls (.ref ra :: rest))) : W p l e R s m args below meth c H locs cells slots Q (F0 m pc ls (.int (I (N : Int)) :: .ref (q 119) :: rest)) := by
  have hF := d_full hD hS hA
  refine va_callr (A1 := va_A (CX g q lb σ) H.size) (va_runS (As := [.ref (q 119), .int (I (N : Int))]) (rest := rest) ⟨hx, hb, hml, hown, hts⟩ (L_J7_copyOf l g q lb N hlb hN2 hN H.size) (va_cwS 2 hts (TB_vS tw_1875 tw_1876 tw_4 co_J7_copyOf_59c91) rfl rfl rfl (by decide +kernel) ⟨hfr, hlo⟩) (preS xT_bl hP hK hNb hD xT_at) rfl rfl hl.1 rfl (lv_room hW) hdg ⟨hc, hs⟩) hS (fun q _ h => hF q h) hF (fun u ra t H1 locs1 ht hvm hw hB hz hk hS1 => ?_)
  obtain ⟨h2, hP1, hK1, hD1⟩ := hB
  rw [ht] at hP1
  rw [hw, h2] at hP1 hD1
  obtain ⟨hP2, hD2⟩ := va_join (wr := []) hP hD (List.range (CX g q lb σ).length) [] (rng_map _) rfl rfl (fun i hi => by cases hi) hk hF hP1 hD1
  exact kk ra H1 locs1 hP2 hD2 hS1
end GR2
theorem qn_id {q : Nat → Nat} : qn q (q 119) = q := by
  funext i
  unfold qn
  by_cases z : i = 119
  · rw [if_pos z, z]
  · rw [if_neg z]
theorem qn_qn {q : Nat → Nat} {a b : Nat} : qn (qn q a) b = qn q b := by
  funext i
  unfold qn
  by_cases z : i = 119
  · rw [if_pos z, if_pos z]
  · rw [if_neg z, if_neg z, if_neg z]
/-- how long the bodies are: a scalar of the state that no field is -/
def L2 (σ : S0) : Nat := (σ.1 200).toNat
/-- what a big method gives back: nothing, an int -/
abbrev p_B (g : gG) (q : Nat → Nat) (wv wa wb : List Nat) (σ : S0) (Q : S0 → Prop) (k n : Nat) : va_W → Prop := fun w => ∃ (ra : Nat) (τ : S0), n_m τ ∧ f_r wv wa wb σ τ ∧ w = CX g (qn q ra) (L2 τ) τ ∧ ((k : Int) * 16384 ≤ τ.1 200 - σ.1 200 ∧ (n : Int) ≤ 2 * (τ.1 200 - σ.1 200)) ∧ Q τ
abbrev p_BI (g : gG) (q : Nat → Nat) (wv wa wb : List Nat) (σ : S0) (Q : Int → S0 → Prop) (k n : Nat) : Int32 → va_W → Prop := fun r w => ∃ (x : Int) (ra : Nat) (τ : S0), rg x ∧ r = I x ∧ n_m τ ∧ f_r wv wa wb σ τ ∧ w = CX g (qn q ra) (L2 τ) τ ∧ ((k : Int) * 16384 ≤ τ.1 200 - σ.1 200 ∧ (n : Int) ≤ 2 * (τ.1 200 - σ.1 200)) ∧ Q x τ
section GR3
variable {p : Program} {l : Launch} {e : Env} {R : Room} {s : State} {m : MethodId} {args : Array Value} {below : List Frame} {meth : Method} {c : Code} {H H0 : Heap} {locs : List Loc} {cells slots mc ms : Nat} {Q : State → Prop} {g : gG} {A A0 : Nat → Prop} {pc : Nat} {ls : Array Slot} {st0 rest : List Value} {cc : ByteArray} {q : Nat → Nat} {lb ra : Nat} {σ : S0} {rm : Room} {aa : Array Value}
theorem xrB {post : Nat → Nat → va_W → Prop} {w : va_W} (hx : p.tables.exec = Jvm.exec) (hb : c.code = cc) (hr : meth.sig.returnType = none) (hlk : meth.locks = false) (hP : KP g w H) (hK : KK g s) (hD : va_D A0 w) (hS : va_S A0 s.heap H locs) (hp : post cells slots w) (h1 : cells ≤ mc) (h2 : slots ≤ ms) (hdg : decode cc pc = .ok (.return_, 1)) : W p l e rm s m args below meth c H locs cells slots (MQ2 below (fun k n => QV g A0 (post k n)) args s mc ms A0) (F0 m pc ls []) :=
  W_mono (fun t h => ⟨cells, slots, h1, h2, h⟩) (W.vret hx hb hr (fun t ht hW => ⟨⟨w, rfl, hp, by rw [← ht] at hP; exact hP, va_K.moved hW.alike hK, hD⟩, hS.F ht⟩) hS.2.2 hdg hlk)
theorem xrBI {post : Nat → Nat → Int32 → va_W → Prop} {v : Int32} {w : va_W} (hx : p.tables.exec = Jvm.exec) (hb : c.code = cc) (hr : meth.sig.returnType = some .int) (hlk : meth.locks = false) (hP : KP g w H) (hK : KK g s) (hD : va_D A0 w) (hS : va_S A0 s.heap H locs) (hp : post cells slots v w) (h1 : cells ≤ mc) (h2 : slots ≤ ms) (hdg : decode cc pc = .ok (.ireturn, 1)) : W p l e rm s m args below meth c H locs cells slots (MQ2 below (fun k n => QI g A0 (post k n)) args s mc ms A0) (F0 m pc ls [.int v]) :=
  W_mono (fun t h => ⟨cells, slots, h1, h2, h⟩) (W.iret (v := v) hx hb hr (fun t ht hW => ⟨⟨v, w, rfl, hp, by rw [← ht] at hP; exact hP, va_K.moved hW.alike hK, hD⟩, hS.F ht⟩) hS.2.2 hdg hlk)
/-- a call of a big method -/
theorem wc_B {wv wa wb : List Nat} {post : S0 → Prop} (hr : Run2 p l e R s m args below meth c H locs cells slots mc ms (F0 m pc ls st0) rest (fun k n => QV g (va_A (CX g q lb σ) H.size) (p_B g q wv wa wb σ post k n) aa) (va_A (CX g q lb σ) H.size)) (hP : KP g (CX g q lb σ) H) (hD : va_D A (CX g q lb σ)) (hS : va_S A H0 H locs) (hA : ∀ q, H0.size ≤ q → A q)
    (kk : ∀ (k n : Nat) (ra : Nat) (τ : S0) (H1 : Heap) (locs1 : List Loc), k ≤ mc → n ≤ ms → n_m τ → f_r wv wa wb σ τ → ((k : Int) * 16384 ≤ τ.1 200 - σ.1 200 ∧ (n : Int) ≤ 2 * (τ.1 200 - σ.1 200)) → post τ → KP g (CX g (qn q ra) (L2 τ) τ) H1 → va_D A (CX g (qn q ra) (L2 τ) τ) → va_S A H0 H1 locs1 → W p l e R s m args below meth c H1 locs1 (cells + k) (slots + n) Q (F0 m (pc + 3) ls rest)) : W p l e R s m args below meth c H locs cells slots Q (F0 m pc ls st0) := by
  have hF := d_full hD hS hA
  refine call2v (A1 := va_A (CX g q lb σ) H.size) hr hS (fun q _ h => hF q h) hF (fun k n u t H1 locs1 hk1 hn1 ht hvm hw hB hz hk hS1 => ?_)
  obtain ⟨hP1, hK1, hD1⟩ := hB
  rw [ht] at hP1
  obtain ⟨ra, τ, h3, h4, rfl, h5, h6⟩ := hw
  obtain ⟨hP2, hD2⟩ := va_join (wr := []) hP hD (List.range (CX g q lb σ).length) [] (rng_map _) rfl rfl (fun i hi => by cases hi) hk hF hP1 hD1
  exact kk k n ra τ H1 locs1 hk1 hn1 h3 h4 h5 h6 hP2 hD2 hS1
end GR3
section GR4
variable {p : Program} {l : Launch} {e : Env} {R : Room} {s : State} {m : MethodId} {args : Array Value} {below : List Frame} {meth : Method} {c : Code} {H H0 : Heap} {locs : List Loc} {cells slots mc ms : Nat} {Q : State → Prop} {g : gG} {A : Nat → Prop} {pc : Nat} {ls : Array Slot} {st0 rest : List Value} {q : Nat → Nat} {lb : Nat} {σ : S0} {aa : Array Value} {free : Addr → Prop}
theorem call2i {St : Type} {post : Nat → Nat → Int32 → St → Prop} {B : St → State → Prop} {A0 A1 : Nat → Prop} {a : Array Value} (hr : Run2 p l e R s m args below meth c H locs cells slots mc ms (F0 m pc ls st0) rest (fun k n => va_Qi (post k n) B A1 a) free) (hS : va_S A0 H0 H locs) (hA : ∀ q, q < H.size → A1 q → A0 q) (hf : ∀ q, free q → A0 q)
    (kk : ∀ (k n : Nat) (r : Int32) (u : St) (t : State) (H1 : Heap) (locs1 : List Loc), k ≤ mc → n ≤ ms → t.heap = H1 → s.vm.Alike t.vm → post k n r u → B u t → H.size ≤ H1.size → (∀ q : Nat, q < H.size → ¬ A1 q → H1[q]? = H[q]?) → va_S A0 H0 H1 locs1 → W p l e R s m args below meth c H1 locs1 (cells + k) (slots + n) Q (F0 m (pc + 3) ls (.int r :: rest))) : W p l e R s m args below meth c H locs cells slots Q (F0 m pc ls st0) := by
  intro T hT X
  obtain ⟨v, st₀, t, T', L, k, n', hkn, h0, X', hL, e1, e2, ⟨⟨r, u, hv, hp, hb⟩, hz, hk⟩, st⟩ := hr T hT X
  cases hv
  rw [h0] at hz hk
  obtain ⟨t2, a1, b1⟩ := kk k n' r u t T'.heap (locs ++ L) hkn.1 hkn.2 e1.symm (by rw [← e2]; exact X'.warmed.alike) hp hb (by rw [e1]; exact hz) (fun q h1 h2 => by rw [e1]; exact hk q h1 h2)
    ⟨Nat.le_trans hS.1 (by rw [e1]; exact hz), fun q h1 h2 => by rw [e1, hk q (Nat.lt_of_lt_of_le h1 hS.1) (fun z => h2 (hA q (Nat.lt_of_lt_of_le h1 hS.1) z))]; exact hS.2.1 q h1 h2, fun q hq => by
      rcases List.mem_append.mp hq with h | h
      · exact hS.2.2 q h
      · exact hf _ (hL q h)⟩ T' rfl X'
  exact ⟨t2, st t2 a1, b1⟩
theorem wc_BI {wv wa wb : List Nat} {post : Int → S0 → Prop} (hr : Run2 p l e R s m args below meth c H locs cells slots mc ms (F0 m pc ls st0) rest (fun k n => QI g (va_A (CX g q lb σ) H.size) (p_BI g q wv wa wb σ post k n) aa) (va_A (CX g q lb σ) H.size)) (hP : KP g (CX g q lb σ) H) (hD : va_D A (CX g q lb σ)) (hS : va_S A H0 H locs) (hA : ∀ q, H0.size ≤ q → A q)
    (kk : ∀ (k n : Nat) (x : Int) (ra : Nat) (τ : S0) (H1 : Heap) (locs1 : List Loc), k ≤ mc → n ≤ ms → rg x → n_m τ → f_r wv wa wb σ τ → ((k : Int) * 16384 ≤ τ.1 200 - σ.1 200 ∧ (n : Int) ≤ 2 * (τ.1 200 - σ.1 200)) → post x τ → KP g (CX g (qn q ra) (L2 τ) τ) H1 → va_D A (CX g (qn q ra) (L2 τ) τ) → va_S A H0 H1 locs1 → W p l e R s m args below meth c H1 locs1 (cells + k) (slots + n) Q (F0 m (pc + 3) ls (.int (I x) :: rest))) : W p l e R s m args below meth c H locs cells slots Q (F0 m pc ls st0) := by
  have hF := d_full hD hS hA
  refine call2i (A1 := va_A (CX g q lb σ) H.size) hr hS (fun q _ h => hF q h) hF (fun k n r u t H1 locs1 hk1 hn1 ht hvm hw hB hz hk hS1 => ?_)
  obtain ⟨hP1, hK1, hD1⟩ := hB
  rw [ht] at hP1
  obtain ⟨x, ra, τ, h1, rfl, h3, h4, rfl, h5, h6⟩ := hw
  obtain ⟨hP2, hD2⟩ := va_join (wr := []) hP hD (List.range (CX g q lb σ).length) [] (rng_map _) rfl rfl (fun i hi => by cases hi) hk hF hP1 hD1
  exact kk k n x ra τ H1 locs1 hk1 hn1 h1 h3 h4 h5 h6 hP2 hD2 hS1
end GR4
