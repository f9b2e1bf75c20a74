-- the law's state between the calls
section LW0
variable {g : gG} {q q2 : Nat → Nat} {σ τ : S0} {lb : Nat} {H : Heap} {A : Nat → Prop}
abbrev cm_i : List Nat := List.range 125
abbrev cm_r : List Nat := (List.range 116).map (fun i => i + 125)
abbrev mc_i : List Nat := List.range 116
abbrev mc_r : List Nat := (List.range 125).map (fun i => i + 116)
set_option maxRecDepth 100000 in
theorem cm_C : cm_i.map (fun i => (CX g q lb σ ++ MX g q2 0 τ)[i]?) = (CX g q lb σ).map some := rfl
set_option maxRecDepth 100000 in
theorem cm_R : cm_r.map (fun i => (CX g q lb σ ++ MX g q2 0 τ)[i]?) = (MX g q2 0 τ).map some := rfl
set_option maxRecDepth 100000 in
theorem mc_C : mc_i.map (fun i => (MX g q2 0 τ ++ CX g q lb σ)[i]?) = (MX g q2 0 τ).map some := rfl
set_option maxRecDepth 100000 in
theorem mc_R : mc_r.map (fun i => (MX g q2 0 τ ++ CX g q lb σ)[i]?) = (CX g q lb σ).map some := rfl
set_option maxRecDepth 100000 in
theorem cm_nd : va_nd cm_r = true := by decide +kernel
set_option maxRecDepth 100000 in
theorem mc_nd : va_nd mc_r = true := by decide +kernel
theorem cm_d : ∀ i ∈ cm_r, i ∉ cm_i := fun i h z => by
  obtain ⟨j, -, rfl⟩ := List.mem_map.mp h
  have := List.mem_range.mp z
  omega
theorem mc_d : ∀ i ∈ mc_r, i ∉ mc_i := fun i h z => by
  obtain ⟨j, -, rfl⟩ := List.mem_map.mp h
  have := List.mem_range.mp z
  omega
theorem lw_fm {α β : Type} (is : List α) (f : α → Option β) (ws : List β) (h : is.map f = ws.map some) : is.filterMap f = ws := by
  induction is generalizing ws with
  | nil => cases ws with
    | nil => rfl
    | cons a t => simp at h
  | cons i t ih => cases ws with
    | nil => simp at h
    | cons a u =>
      simp only [List.map_cons, List.cons.injEq] at h
      rw [List.filterMap_cons, h.1]
      simp only [ih u h.2]
theorem cm_P (h : KP g (CX g q lb σ ++ MX g q2 0 τ) H) : KP g (CX g q lb σ) H := h.sub cm_i (lw_fm _ _ _ cm_C)
theorem mc_P (h : KP g (MX g q2 0 τ ++ CX g q lb σ) H) : KP g (MX g q2 0 τ) H := h.sub mc_i (lw_fm _ _ _ mc_C)
set_option maxRecDepth 100000 in
theorem cm_in : va_nd cm_i = true := by decide +kernel
set_option maxRecDepth 100000 in
theorem mc_in : va_nd mc_i = true := by decide +kernel
theorem cm_D (h : va_D A (CX g q lb σ ++ MX g q2 0 τ)) : va_D A (CX g q lb σ) := h.sub cm_i cm_in cm_C
theorem mc_D (h : va_D A (MX g q2 0 τ ++ CX g q lb σ)) : va_D A (MX g q2 0 τ) := h.sub mc_i mc_in mc_C
theorem l_lb {k : Int} (h : l_C k σ) : L2 σ < 2 ^ 31 := by
  have z : σ.1 200 ≤ 1048576 := (h.1.1.1 200).2
  unfold L2
  omega
theorem l_C_up {k k' : Int} (h : l_C k σ) (w : k ≤ k') : l_C k' σ := ⟨h.1, ⟨by have := h.2.1; omega, by have := h.2.1; omega⟩, h.2.2⟩
end LW0
section LW1
variable {p : Program} {l : Launch} {e : Env} {R : Room} {s : State} {m : MethodId} {args : Array Value} {below : List Frame} {meth : Method} {c : Code} {H H0 : Heap} {locs : List Loc} {cells slots mc ms : Nat} {Q : State → Prop} {g : gG} {A0 : Nat → Prop} {ws wc wr : va_W} {pc : Nat} {ls : Array Slot} {st0 rest : List Value} {aa : Array Value} {cc : ByteArray}
/-- behind a call of a big method that answers an int -/
theorem xcB {post : Nat → Nat → Int32 → va_W → Prop} (hr : Run2 p l e R s m args below meth c H locs cells slots mc ms (F0 m pc ls st0) rest (fun k n => QI g (va_A wc H.size) (post k n) aa) (va_A wc H.size)) (hP : KP g ws H) (hD : va_D A0 ws) (hS : va_S A0 H0 H locs) (hA : ∀ q, H0.size ≤ q → A0 q) (isC isR : List Nat) (hC : isC.map (fun i => ws[i]?) = wc.map some) (hR : isR.map (fun i => ws[i]?) = wr.map some) (hn : va_nd isR = true) (hdis : ∀ i ∈ isR, i ∉ isC)
    (kk : ∀ (k n : Nat) (r : Int32) (w1 : va_W) (H1 : Heap) (locs1 : List Loc), k ≤ mc → n ≤ ms → post k n r w1 → KP g (wr ++ w1) H1 → va_D A0 (wr ++ w1) → va_S A0 H0 H1 locs1 → W p l e R s m args below meth c H1 locs1 (cells + k) (slots + n) Q (F0 m (pc + 3) ls (.int r :: rest))) : W p l e R s m args below meth c H locs cells slots Q (F0 m pc ls st0) := by
  have hF := va_free (wc := wc) hD hS hA isC hC
  refine call2i (A1 := va_A wc H.size) hr hS (fun q _ h => hF q h) hF (fun k n r u t H1 locs1 hk1 hn1 ht hvm hw hB hz hk hS1 => ?_)
  obtain ⟨hP1, hK1, hD1⟩ := hB
  rw [ht] at hP1
  obtain ⟨hP2, hD2⟩ := va_join hP hD isC isR hC hR hn hdis hk hF hP1 hD1
  exact kk k n r u H1 locs1 hk1 hn1 hw hP2 hD2 hS1
def lw_x (xs : Nat → Int32) (k j : Nat) : Int := (xs (nI (k + j)).toNatClampNeg).toInt
theorem lw_xe {xs : Nat → Int32} {k j : Nat} : xs (nI (k + j)).toNatClampNeg = I (lw_x xs k j) := by
  unfold lw_x I
  exact (Int32.ofInt_toInt _).symm
theorem lw_xr {xs : Nat → Int32} {k j : Nat} : rg (lw_x xs k j) := by
  unfold lw_x
  exact ⟨by have := (xs (nI (k + j)).toNatClampNeg).le_toInt; omega, by have := (xs (nI (k + j)).toNatClampNeg).toInt_lt; omega⟩
/-- one number of the script -/
theorem lw_el {b L k j a1 a2 : Nat} {i n : Int} {xs : Nat → Int32} (hx : p.tables.exec = Jvm.exec) (hb : c.code = code) (hXs : va_X b L xs s H0) (hbl : b < H0.size) (hbA : ¬ A0 b) (hS : va_S A0 H0 H locs) (hl : lv_has ls 4 [(3, .int (nI k)), (2, .ref a2), (1, .ref a1), (0, .ref b)]) (hj : k + j < L) (hL : L ≤ 3072)
    (d0 : decode code pc = .ok (.aload_n 0, 1)) (d1 : decode code (pc + 1) = .ok (.iload_n 3, 1)) (d2 : decode code (pc + 2) = .ok (.iconst i, 1)) (d3 : decode code (pc + 3) = .ok (.iadd, 1)) (d4 : decode code (pc + 4) = .ok (.iaload, 1)) (di : Int32.ofInt i = nI j) (hn : n = lw_x xs k j)
    (kk : rg n → W p l e R s m args below meth c H locs cells slots Q (F0 m (pc + 5) ls (.int (I n) :: rest))) : W p l e R s m args below meth c H locs cells slots Q (F0 m pc ls rest) := by
  refine lv_aload_n hx hb d0 rfl (lv_at hl 3 rfl) ?_
  refine lv_iload_n hx hb d1 rfl (lv_at hl 0 rfl) ?_
  refine lv_iconst (v := nI j) hx hb d2 di ?_
  refine lv_iadd hx hb d3 ?_
  refine xtop (y := nI (k + j)) (nI_add k j) ?_
  refine va_sld hx hb hXs hbl hbA hS (vp_in_nI hj (by omega)) d4 ?_
  rw [lw_xe (xs := xs) (k := k) (j := j), ← hn]
  exact kk (by rw [hn]; exact lw_xr)
end LW1
/-- what the law's places stand on -/
def l_H (p : Program) (s : State) (m : MethodId) (meth : Method) (c : Code) (g : gG) (A : Nat → Prop) (b L : Nat) (xs : Nat → Int32) (t1 t2 : Nat) : Prop :=
  p.tables.exec = Jvm.exec ∧ c.code = code ∧ c.maxLocals = 4 ∧ s.vm.findClass R_law = some m.cls ∧ (∀ w ∈ TB, w.before #[Value.ref b] s = true) ∧ va_X b L xs s s.heap ∧ b < s.heap.size ∧ KK g s ∧ nbOK s ∧ sX t1 t2 A s ∧ (∀ q, s.heap.size ≤ q → A q) ∧ ¬ A b
/-- what holds between the calls -/
def l_I (g : gG) (A : Nat → Prop) (s : State) (q q2 : Nat → Nat) (k : Nat) (σ τ : S0) (H : Heap) (locs : List Loc) (cells slots : Nat) : Prop :=
  (KP g (CX g q (L2 σ) σ ++ MX g q2 0 τ) H ∧ va_D A (CX g q (L2 σ) σ ++ MX g q2 0 τ) ∧ va_S A s.heap H locs) ∧ (l_C (k : Int) σ ∧ l_M τ ∧ n_m σ ∧ n_m τ) ∧ (σ.1 0 = τ.1 0 ∧ σ.1 1 = τ.1 1) ∧ 16384 * (cells : Int) ≤ 16384 * 241 + (σ.1 200 - 16384) ∧ (slots : Int) ≤ 4278646 + 2 * (σ.1 200 - 16384)
/-- how the law goes on behind a case -/
def l_K (p : Program) (l : Launch) (e : Env) (s : State) (m : MethodId) (below : List Frame) (meth : Method) (c : Code) (g : gG) (A : Nat → Prop) (b : Nat) (q q2 : Nat → Nat) (k : Nat) (ls : Array Slot) (Q : State → Prop) : Prop :=
  ∀ (q1 : Nat → Nat) (σ1 τ1 : S0) (H1 : Heap) (locs1 : List Loc) (cells1 slots1 : Nat), q1 0 = q 0 → l_I g A s q1 q2 (k + 6) σ1 τ1 H1 locs1 cells1 slots1 → W p l e room_1 s m #[Value.ref b] below meth c H1 locs1 cells1 slots1 Q (F0 m 843 ls [])
