-- the words that keep; contracts over worlds with the four array classes fixed
def TB : List Cond := lw_tbl.filter goodWord
theorem TB_in {w : Cond} (h : w ∈ TB) : w ∈ lw_tbl := (List.mem_filter.mp h).1
theorem TB_good {w : Cond} (h : w ∈ TB) : goodWord w = true := (List.mem_filter.mp h).2
theorem TB_of {w : Cond} (i : Nat) (h : tables_1[i]? = some w) (hg : goodWord w = true) : w ∈ TB := List.mem_filter.mpr ⟨List.mem_append_right _ (List.mem_of_getElem? h), hg⟩
theorem TB_sel {w : Cond} (i : Nat) (h : (k2_sels lw_privs)[i]? = some w) (hg : goodWord w = true) : w ∈ TB := List.mem_filter.mpr ⟨List.mem_append_left _ (List.mem_of_getElem? h), hg⟩
def isNest : Cond → Bool
  | .fieldLinkNest .. => true
  | .methodLinkNest .. => true
  | _ => false
def NB : List Cond := lw_tbl.filter isNest
def nbOK (U : State) : Prop := ∀ w ∈ NB, va_Nw w U
theorem nest_tabs {w : Cond} (h : isNest w = true) : w.onTables = true := by cases w <;> first | rfl | cases h
theorem NB_of {w : Cond} (h : w ∈ NB) : isNest w = true := (List.mem_filter.mp h).2
theorem nb_use {w : Cond} {s : State} {args : Array Value} (h : nbOK s) (hm : w ∈ NB) : w.before args s = true := va_Nw.use (nest_tabs (NB_of hm)) (h w hm)
theorem nb_warm {s U : State} (hW : s.WarmedH U.vm) (h : nbOK s) : nbOK U := by
  intro w hm
  have h1 := h w hm
  have h2 := NB_of hm
  cases w <;> first | exact va_Nw.warmF hW h1 | exact va_Nw.warmM hW h1 | cases h2
theorem nb_blind {U : State} {k : JFrame} {mk : MethodId} {a : Array Value} (h : nbOK U) : nbOK (U.calling k mk a) := fun w hm => va_Nw.same (nest_tabs (NB_of hm)) (rfl : U.vm = (U.calling k mk a).vm) (h w hm)
theorem nb_of {s : State} {args : Array Value} (h : ∀ w ∈ lw_tbl, w.before args s = true) : nbOK s := fun w hm => va_Nw.of (nest_tabs (NB_of hm)) (h w (List.mem_filter.mp hm).1)
theorem tb_1 {w : Cond} (h : w ∈ tables_1) : w ∈ lw_tbl := List.mem_append_right _ h
theorem TB_m {w : Cond} (h : w ∈ tables_1) (hg : goodWord w = true) : w ∈ TB := List.mem_filter.mpr ⟨tb_1 h, hg⟩
theorem NB_m {w : Cond} (h : w ∈ tables_1) (hg : isNest w = true) : w ∈ NB := List.mem_filter.mpr ⟨tb_1 h, hg⟩
theorem TB_ps {ws : List Cond} (ps : List Nat) (h : ws.map some = ps.map (fun i => tables_1[i]?)) (hg : ws.all goodWord = true) : ∀ w ∈ ws, w ∈ TB := by
  intro w hw
  obtain ⟨k, hk⟩ := List.getElem?_of_mem hw
  have h1 : (ws.map some)[k]? = some (some w) := by rw [List.getElem?_map, hk]; rfl
  rw [h, List.getElem?_map] at h1
  cases hi : ps[k]? with
  | none => rw [hi] at h1; cases h1
  | some i =>
    rw [hi] at h1
    exact TB_of i (Option.some.inj h1) (List.all_eq_true.mp hg w hw)
theorem TB_code {c : Cond} (h : c ∈ TB) : GoodIn TB (c :: TB) := by
  intro w hw
  rcases List.mem_cons.mp hw with e | e
  · rw [e]; exact ⟨h, good_of_word (TB_good h)⟩
  · exact ⟨e, good_of_word (TB_good e)⟩
theorem TB_V {own C : String} {idx : Nat} {y : MethodName} {c : Cond} (h1 : Cond.methodLink own idx y ∈ TB) (h2 : Cond.instanceMethod y ∈ TB) (h3 : Cond.selects C y y ∈ TB) (h4 : Cond.initialized C ∈ TB) (h5 : c ∈ TB) : GoodIn TB (wsV own idx C y (c :: TB)) := by
  intro w hw
  unfold wsV at hw
  rcases List.mem_append.mp hw with e | e
  · have hm : w ∈ TB := by
      rcases List.mem_cons.mp e with e | e
      · rw [e]; exact h1
      rcases List.mem_cons.mp e with e | e
      · rw [e]; exact h2
      rcases List.mem_cons.mp e with e | e
      · rw [e]; exact h3
      rcases List.mem_cons.mp e with e | e
      · rw [e]; exact h4
      · cases e
    exact ⟨hm, good_of_word (TB_good hm)⟩
  · exact TB_code h5 w e
theorem TB_S {own : String} {idx : Nat} {y : MethodName} {c : Cond} (h1 : Cond.methodLink own idx y ∈ TB) (h2 : Cond.static y ∈ TB) (h4 : Cond.initialized own ∈ TB) (h5 : c ∈ TB) : GoodIn TB (wsS own idx y (c :: TB)) := by
  intro w hw
  unfold wsS at hw
  rcases List.mem_append.mp hw with e | e
  · have hm : w ∈ TB := by
      rcases List.mem_cons.mp e with e | e
      · rw [e]; exact h1
      rcases List.mem_cons.mp e with e | e
      · rw [e]; exact h2
      rcases List.mem_cons.mp e with e | e
      · rw [e]; exact h4
      · cases e
    exact ⟨hm, good_of_word (TB_good hm)⟩
  · exact TB_code h5 w e
theorem TB_vS {own : String} {idx : Nat} {y : MethodName} {c : Cond} (h1 : Cond.methodLink own idx y ∈ TB) (h2 : Cond.static y ∈ TB) (h4 : Cond.initialized y.cls ∈ TB) (h5 : c ∈ TB) : GoodIn TB (va_wsS own idx y (c :: TB)) := by
  intro w hw
  unfold va_wsS at hw
  rcases List.mem_append.mp hw with e | e
  · have hm : w ∈ TB := by
      rcases List.mem_cons.mp e with e | e
      · rw [e]; exact h1
      rcases List.mem_cons.mp e with e | e
      · rw [e]; exact h2
      rcases List.mem_cons.mp e with e | e
      · rw [e]; exact h4
      · cases e
    exact ⟨hm, good_of_word (TB_good hm)⟩
  · exact TB_code h5 w e
/-- the classes' numbers and places, and the classes of int[], char[], boolean[], long[] -/
abbrev gG : Type := va_G × (ClassId × ClassId × ClassId × ClassId)
abbrev TT (g : gG) : List (ClassId × FieldType) := [(g.2.1, .int), (g.2.2.1, .char), (g.2.2.2.1, .boolean), (g.2.2.2.2, .long)]
abbrev kI (g : gG) : ClassId := g.2.1
abbrev kC (g : gG) : ClassId := g.2.2.1
abbrev kZ (g : gG) : ClassId := g.2.2.2.1
abbrev kJ (g : gG) : ClassId := g.2.2.2.2
abbrev KP (g : gG) (ws : va_W) (H : Heap) : Prop := va_P g.1 vwCl ws H
abbrev KK (g : gG) (U : State) : Prop := va_K g.1 vwCl (TT g) U
def cP (g : gG) (ws : va_W) (sz : Nat) (X : State → Prop) (U : State) : Prop := U.heap.size = sz ∧ KP g ws U.heap ∧ KK g U ∧ va_D (fun _ => True) ws ∧ nbOK U ∧ X U
def cB (g : gG) (A : Nat → Prop) (w : va_W) (t : State) : Prop := KP g w t.heap ∧ KK g t ∧ va_D A w
abbrev wd (y : MethodName) (b : ByteArray) (n : Nat) (r : Option FieldType) : List Cond := .code y b n r :: TB
def xBl (X : State → Prop) : Prop := ∀ (U : State) (k : JFrame) (mk : MethodId) (a : Array Value), X U → X (U.calling k mk a)
def xT : State → Prop := fun _ => True
theorem xT_bl : xBl xT := fun _ _ _ _ _ => trivial
theorem cP_blind {g : gG} {ws : va_W} {sz : Nat} {X : State → Prop} {av : List Value} (hX : xBl X) : FrameBlind (va_Pc av (cP g ws sz X)) :=
  fun a U k mk q => ⟨q.1, q.2.1, q.2.2.1, va_K.moved (u := U) (U := U.calling k mk a) (Vm.Alike.refl U.vm) q.2.2.2.1, q.2.2.2.2.1, nb_blind q.2.2.2.2.2.1, hX U k mk a q.2.2.2.2.2.2⟩
theorem cP_at {g : gG} {A : Nat → Prop} {ws : va_W} {X : State → Prop} {av : List Value} {H : Heap} {s : State} (hP : KP g ws H) (hK : KK g s) (hN : nbOK s) (hD : va_D A ws) (hX : ∀ U : State, U.heap = H → s.WarmedH U.vm → X U) : ∀ U : State, U.heap = H → s.WarmedH U.vm → va_Pc av (cP g ws H.size X) av.toArray U :=
  fun U hU hW => ⟨rfl, by rw [hU], by rw [hU]; exact hP, va_K.moved hW.alike hK, hD.weaken (fun _ _ _ _ => trivial), nb_warm hW hN, hX U hU hW⟩
theorem preV {g : gG} {A : Nat → Prop} {ws : va_W} {X : State → Prop} {av : List Value} {H : Heap} {s : State} {a q0 ci : Nat} {q : vw_C} {fs : List Value} {C : String} (hC : q.1 = C) (hX : xBl X) (hP : KP g ws H) (hK : KK g s) (hN : nbOK s) (hD : va_D A ws) (hc : vwCl[ci]? = some q) (he : ws[q0]? = some (a, .inr (ci, fs))) (hXa : ∀ U : State, U.heap = H → s.WarmedH U.vm → X U) : PreV s H C a (va_Pc (.ref a :: av) (cP g ws H.size X)) av :=
  ⟨cP_blind hX, by rw [← hC]; exact va_recv hK hP hc he, cP_at hP hK hN hD hXa⟩
theorem preS {g : gG} {A : Nat → Prop} {ws : va_W} {X : State → Prop} {av : List Value} {H : Heap} {s : State} (hX : xBl X) (hP : KP g ws H) (hK : KK g s) (hN : nbOK s) (hD : va_D A ws) (hXa : ∀ U : State, U.heap = H → s.WarmedH U.vm → X U) : PreS s H (va_Pc av (cP g ws H.size X)) av := ⟨cP_blind hX, cP_at hP hK hN hD hXa⟩
theorem xT_at {H : Heap} {s : State} : ∀ U : State, U.heap = H → s.WarmedH U.vm → xT U := fun _ _ _ => trivial
abbrev QI (g : gG) (A : Nat → Prop) (post : Int32 → va_W → Prop) : Array Value → State → Outcome → State → Prop := va_Qi post (cB g A) A
abbrev QL (g : gG) (A : Nat → Prop) (post : Int64 → va_W → Prop) : Array Value → State → Outcome → State → Prop := va_Ql post (cB g A) A
abbrev QV (g : gG) (A : Nat → Prop) (post : va_W → Prop) : Array Value → State → Outcome → State → Prop := va_Qv post (cB g A) A
abbrev MetI (l : Launch) (y : MethodName) (b : ByteArray) (n : Nat) (ret : Option FieldType) (rm : Room) (g : gG) (av : List Value) (ws : va_W) (sz : Nat) (X : State → Prop) (post : Int32 → va_W → Prop) (mc ms : Nat) : Prop := Met l y (wd y b n ret) rm (va_Pc av (cP g ws sz X)) (QI g (va_A ws sz) post) mc ms (va_A ws sz)
abbrev MetL (l : Launch) (y : MethodName) (b : ByteArray) (n : Nat) (ret : Option FieldType) (rm : Room) (g : gG) (av : List Value) (ws : va_W) (sz : Nat) (X : State → Prop) (post : Int64 → va_W → Prop) (mc ms : Nat) : Prop := Met l y (wd y b n ret) rm (va_Pc av (cP g ws sz X)) (QL g (va_A ws sz) post) mc ms (va_A ws sz)
abbrev MetV (l : Launch) (y : MethodName) (b : ByteArray) (n : Nat) (rm : Room) (g : gG) (av : List Value) (ws : va_W) (sz : Nat) (X : State → Prop) (post : va_W → Prop) (mc ms : Nat) : Prop := Met l y (wd y b n none) rm (va_Pc av (cP g ws sz X)) (QV g (va_A ws sz) post) mc ms (va_A ws sz)
/-- what a walk of a body starts with -/
theorem mkMet {l : Launch} {y : MethodName} {b : ByteArray} {n : Nat} {ret : Option FieldType} {rm : Room} {g : gG} {av : List Value} {ws : va_W} {sz : Nat} {X : State → Prop} {Qc : (Nat → Prop) → Array Value → State → Outcome → State → Prop} {mc ms : Nat} (hy : plainName y.cls = true) (hn : (lg_sl av).length ≤ n)
    (body : ∀ (p : Program) (e : Env) (s : State) (m : MethodId) (below : List Frame) (meth : Method) (c : Code) (A : Nat → Prop) (H : Heap) (ls : Array Slot), p.tables.exec = Jvm.exec → c.code = b → meth.sig.returnType = ret → c.maxLocals = n → s.vm.findClass y.cls = some m.cls → (∀ w ∈ TB, w.before av.toArray s = true) → meth.locks = false → meth.name = y.name → s.heap.size = sz → KP g ws H → KK g s → nbOK s → va_D A ws → (∀ q, s.heap.size ≤ q → A q) → A = va_A ws sz → va_S A s.heap H [] → X s → lv_has ls n (lv_args 0 av) → W p l e rm s m av.toArray below meth c H [] 0 0 (MQ below (Qc A) av.toArray s mc ms A) (F0 m 0 ls [])) :
    Met l y (wd y b n ret) rm (va_Pc av (cP g ws sz X)) (Qc (va_A ws sz)) mc ms (va_A ws sz) := by
  refine Met.ofW (cc := b) (maxL := n) (ret := ret) hy rfl ?_
  intro p e s m args below meth c s₁ B hml hv
  obtain ⟨rfl, hsz, hP, hK, hD0, hN, hX⟩ := hv
  have hts := atoms_spec (ws := wd y b n ret) B.pre
  have hD := hD0.self (sz := s.heap.size)
  have hl := lv_entry av (n := n) hn
  rw [lg_entry_eq]
  subst hsz
  exact body p e s m below meth c (va_A ws s.heap.size) s.heap _ B.exec B.bytes B.returns hml (findClass_of_methodNamed B.named) (fun w h => hts w (List.mem_cons_of_mem _ h)) B.notSynchronized (name_of_methodNamed B.named B.method).1 rfl hP hK hN hD (fun q h => Or.inr h) rfl va_S.rf hX hl
section BW
variable {p : Program} {l : Launch} {e : Env} {R : Room} {s : State} {m : MethodId} {args : Array Value} {below : List Frame} {meth : Method} {c : Code} {H H0 : Heap} {locs : List Loc} {cells slots mc ms : Nat} {Q : State → Prop} {g : gG} {A0 : Nat → Prop} {ws wc wr : va_W} {pc : Nat} {ls : Array Slot} {st0 rest : List Value} {aa : Array Value} {cc : ByteArray}
/-- behind a call that answers an int -/
theorem xci {post : Int32 → va_W → Prop} (hr : va_Run p l e R s m args below meth c H locs cells slots mc ms (F0 m pc ls st0) rest (QI g (va_A wc H.size) post aa) (va_A wc H.size)) (hP : KP g ws H) (hD : va_D A0 ws) (hS : va_S A0 H0 H locs) (hA : ∀ q, H0.size ≤ q → A0 q) (isC isR : List Nat) (hC : isC.map (fun i => ws[i]?) = wc.map some) (hR : isR.map (fun i => ws[i]?) = wr.map some) (hn : va_nd isR = true) (hdis : ∀ i ∈ isR, i ∉ isC)
    (kk : ∀ (r : Int32) (w1 : va_W) (H1 : Heap) (locs1 : List Loc), post r w1 → KP g (wr ++ w1) H1 → va_D A0 (wr ++ w1) → va_S A0 H0 H1 locs1 → W p l e R s m args below meth c H1 locs1 (cells + mc) (slots + ms) Q (F0 m (pc + 3) ls (.int r :: rest))) : W p l e R s m args below meth c H locs cells slots Q (F0 m pc ls st0) := by
  have hF := va_free (wc := wc) hD hS hA isC hC
  refine va_calli hr hS (fun q _ h => hF q h) hF (fun r u t H1 locs1 ht hvm hw hB hz hk hS1 => ?_)
  obtain ⟨hP1, hK1, hD1⟩ := hB
  rw [ht] at hP1
  obtain ⟨hP2, hD2⟩ := va_join hP hD isC isR hC hR hn hdis hk hF hP1 hD1
  exact kk r u H1 locs1 hw hP2 hD2 hS1
theorem xcl {post : Int64 → va_W → Prop} (hr : va_Run p l e R s m args below meth c H locs cells slots mc ms (F0 m pc ls st0) rest (QL g (va_A wc H.size) post aa) (va_A wc H.size)) (hP : KP g ws H) (hD : va_D A0 ws) (hS : va_S A0 H0 H locs) (hA : ∀ q, H0.size ≤ q → A0 q) (isC isR : List Nat) (hC : isC.map (fun i => ws[i]?) = wc.map some) (hR : isR.map (fun i => ws[i]?) = wr.map some) (hn : va_nd isR = true) (hdis : ∀ i ∈ isR, i ∉ isC)
    (kk : ∀ (r : Int64) (w1 : va_W) (H1 : Heap) (locs1 : List Loc), post r w1 → KP g (wr ++ w1) H1 → va_D A0 (wr ++ w1) → va_S A0 H0 H1 locs1 → W p l e R s m args below meth c H1 locs1 (cells + mc) (slots + ms) Q (F0 m (pc + 3) ls (.long r :: rest))) : W p l e R s m args below meth c H locs cells slots Q (F0 m pc ls st0) := by
  have hF := va_free (wc := wc) hD hS hA isC hC
  refine va_calll hr hS (fun q _ h => hF q h) hF (fun r u t H1 locs1 ht hvm hw hB hz hk hS1 => ?_)
  obtain ⟨hP1, hK1, hD1⟩ := hB
  rw [ht] at hP1
  obtain ⟨hP2, hD2⟩ := va_join hP hD isC isR hC hR hn hdis hk hF hP1 hD1
  exact kk r u H1 locs1 hw hP2 hD2 hS1
theorem xcv {post : va_W → Prop} (hr : va_Run p l e R s m args below meth c H locs cells slots mc ms (F0 m pc ls st0) rest (QV g (va_A wc H.size) post aa) (va_A wc H.size)) (hP : KP g ws H) (hD : va_D A0 ws) (hS : va_S A0 H0 H locs) (hA : ∀ q, H0.size ≤ q → A0 q) (isC isR : List Nat) (hC : isC.map (fun i => ws[i]?) = wc.map some) (hR : isR.map (fun i => ws[i]?) = wr.map some) (hn : va_nd isR = true) (hdis : ∀ i ∈ isR, i ∉ isC)
    (kk : ∀ (w1 : va_W) (H1 : Heap) (locs1 : List Loc), post w1 → KP g (wr ++ w1) H1 → va_D A0 (wr ++ w1) → va_S A0 H0 H1 locs1 → W p l e R s m args below meth c H1 locs1 (cells + mc) (slots + ms) Q (F0 m (pc + 3) ls rest)) : W p l e R s m args below meth c H locs cells slots Q (F0 m pc ls st0) := by
  have hF := va_free (wc := wc) hD hS hA isC hC
  refine va_callv hr hS (fun q _ h => hF q h) hF (fun u t H1 locs1 ht hvm hw hB hz hk hS1 => ?_)
  obtain ⟨hP1, hK1, hD1⟩ := hB
  rw [ht] at hP1
  obtain ⟨hP2, hD2⟩ := va_join hP hD isC isR hC hR hn hdis hk hF hP1 hD1
  exact kk u H1 locs1 hw hP2 hD2 hS1
/-- a written sum has its number -/
theorem xtop {x y : Int32} (h : x = y) (k : W p l e R s m args below meth c H locs cells slots Q (F0 m pc ls (.int y :: rest))) : W p l e R s m args below meth c H locs cells slots Q (F0 m pc ls (.int x :: rest)) := by rw [h]; exact k
theorem xtopl {x y : Int64} (h : x = y) (k : W p l e R s m args below meth c H locs cells slots Q (F0 m pc ls (.long y :: rest))) : W p l e R s m args below meth c H locs cells slots Q (F0 m pc ls (.long x :: rest)) := by rw [h]; exact k
/-- ends -/
theorem xri {post : Int32 → va_W → Prop} {v : Int32} {w : va_W} {rm : Room} (hx : p.tables.exec = Jvm.exec) (hb : c.code = cc) (hr : meth.sig.returnType = some .int) (hlk : meth.locks = false) (hP : KP g w H) (hK : KK g s) (hD : va_D A0 w) (hS : va_S A0 s.heap H locs) (hp : post v w) (h1 : cells ≤ mc) (h2 : slots ≤ ms) (hdg : decode cc pc = .ok (.ireturn, 1)) : W p l e rm s m args below meth c H locs cells slots (MQ below (QI g A0 post) args s mc ms A0) (F0 m pc ls [.int v]) := by
  refine W.widen h1 h2 ?_
  exact W.iret (v := v) hx hb hr (fun t ht hW => ⟨⟨v, w, rfl, hp, by rw [← ht] at hP; exact hP, va_K.moved hW.alike hK, hD⟩, hS.F ht⟩) hS.2.2 hdg hlk
theorem xrz {post : Int32 → va_W → Prop} {v : Int32} {w : va_W} {rm : Room} (hx : p.tables.exec = Jvm.exec) (hb : c.code = cc) (hr : meth.sig.returnType = some .boolean) (hnz : narrow .boolean (.int v) = .int v) (hlk : meth.locks = false) (hP : KP g w H) (hK : KK g s) (hD : va_D A0 w) (hS : va_S A0 s.heap H locs) (hp : post v w) (h1 : cells ≤ mc) (h2 : slots ≤ ms) (hdg : decode cc pc = .ok (.ireturn, 1)) : W p l e rm s m args below meth c H locs cells slots (MQ below (QI g A0 post) args s mc ms A0) (F0 m pc ls [.int v]) := by
  refine W.widen h1 h2 ?_
  exact W.zret (v := v) hx hb hr hnz (fun t ht hW => ⟨⟨v, w, rfl, hp, by rw [← ht] at hP; exact hP, va_K.moved hW.alike hK, hD⟩, hS.F ht⟩) hS.2.2 hdg hlk
theorem xrl {post : Int64 → va_W → Prop} {v : Int64} {w : va_W} {rm : Room} (hx : p.tables.exec = Jvm.exec) (hb : c.code = cc) (hr : meth.sig.returnType = some .long) (hlk : meth.locks = false) (hP : KP g w H) (hK : KK g s) (hD : va_D A0 w) (hS : va_S A0 s.heap H locs) (hp : post v w) (h1 : cells ≤ mc) (h2 : slots ≤ ms) (hdg : decode cc pc = .ok (.lreturn, 1)) : W p l e rm s m args below meth c H locs cells slots (MQ below (QL g A0 post) args s mc ms A0) (F0 m pc ls [.long v]) := by
  refine W.widen h1 h2 ?_
  exact W.lret (v := v) hx hb hr (fun t ht hW => ⟨⟨v, w, rfl, hp, by rw [← ht] at hP; exact hP, va_K.moved hW.alike hK, hD⟩, hS.F ht⟩) hS.2.2 hdg hlk
theorem xrv {post : va_W → Prop} {w : va_W} {rm : Room} (hx : p.tables.exec = Jvm.exec) (hb : c.code = cc) (hr : meth.sig.returnType = none) (hlk : meth.locks = false) (hP : KP g w H) (hK : KK g s) (hD : va_D A0 w) (hS : va_S A0 s.heap H locs) (hp : post w) (h1 : cells ≤ mc) (h2 : slots ≤ ms) (hdg : decode cc pc = .ok (.return_, 1)) : W p l e rm s m args below meth c H locs cells slots (MQ below (QV g A0 post) args s mc ms A0) (F0 m pc ls []) := by
  refine W.widen h1 h2 ?_
  exact W.vret hx hb hr (fun t ht hW => ⟨⟨w, rfl, hp, by rw [← ht] at hP; exact hP, va_K.moved hW.alike hK, hD⟩, hS.F ht⟩) hS.2.2 hdg hlk
/-- a new array: its class is the one that is known -/
theorem xnewa (hx : p.tables.exec = Jvm.exec) (hb : c.code = cc) {atype : ArrayType} {ty : FieldType} (harr : (Cond.arrayClass (newarray.typeOf atype)).before args s = true) (hty : newarray.typeOf atype = ty) (hK : KK g s) (t0 : Nat) {cT : ClassId} (ht : (TT g)[t0]? = some (cT, ty)) (hnm : va_RA s cT ty → s.vm.findClass ("[" ++ ty.toString) = some cT) (hP : KP g ws H) (hD : va_D A0 ws) (hS : va_S A0 H0 H locs) (hA : ∀ q, H0.size ≤ q → A0 q)
    {n : Int32} {N' : Nat} {a0 : vp_A} (ha : ∀ cA : ClassId, vp_cell cA a0 = arrV cA N' (fun _ => defaultValue ty)) (hn : ¬ n < 0) (hN : n.toNatClampNeg = N') (hbytes : N' * componentBytes ty ≤ 536870912) (hcells : cells + 1 ≤ R.cells) (hslots : slots + N' ≤ R.slots) (hdg : decode cc pc = .ok (.newarray atype, 2))
    (kk : ∀ (q : Nat) (H1 : Heap), KP g (ws ++ [(q, .inl (cT, a0))]) H1 → va_D A0 (ws ++ [(q, .inl (cT, a0))]) → va_S A0 H0 H1 locs →
      W p l e R s m args below meth c H1 locs (cells + 1) (slots + N') Q (F0 m (pc + 2) ls (.ref q :: rest))) : W p l e R s m args below meth c H locs cells slots Q (F0 m pc ls (.int n :: rest)) := by
  subst hty
  refine va_newaK hx hb harr rfl hdg rfl hn hN hbytes hcells hslots rfl fun H1 cA e1 z1 o1 hAr hNm => ?_
  have hc := hnm (hK.2 t0 _ ht).2
  rw [hNm] at hc
  obtain rfl : cA = cT := Option.some.inj hc
  have hk : ∀ (k : Nat) (x : Nat × va_E), ws[k]? = some x → H1[x.1]? = H[x.1]? := fun k x hx => o1 x.1 ((hP k x hx).lt)
  refine kk H.size H1 ((hP.kept hk).app (fun k x hx => ?_)) (hD.push hP rfl (hA _ hS.1)) ⟨Nat.le_trans hS.1 (by omega), fun x h1 h2 => (o1 x (Nat.lt_of_lt_of_le h1 hS.1)).trans (hS.2.1 x h1 h2), hS.2.2⟩
  have hz : k < 1 := (List.getElem?_eq_some_iff.mp hx).1
  rw [show k = 0 by omega] at hx
  cases hx
  show H1[H.size]? = some (vp_cell _ _)
  rw [ha]
  exact e1
end BW
theorem arr_known {s : State} {args : Array Value} {ty : FieldType} (h : (Cond.arrayClass ty).before args s = true) : ∃ cA : ClassId, ArrOfT s cA ty ∧ s.vm.findClass ("[" ++ ty.toString) = some cA := by
  obtain ⟨cA, kA, comp, h1, h2, h3⟩ := Cond.arrayClass_spec h
  exact ⟨cA, fun n z => ⟨fun k h => (by cases h), kA, h2, comp, h3⟩, h1⟩
