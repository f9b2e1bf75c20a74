-- pure states, frames, rows per field and per array, calls over a whole side
abbrev S0 : Type := (Nat → Int) × (Nat → Int → Int) × (Nat → Int → Int64)
def s_v (σ : S0) (i : Nat) (x : Int) : S0 := (up σ.1 i x, σ.2.1, σ.2.2)
def s_a (σ : S0) (k : Nat) (j x : Int) : S0 := (σ.1, ua σ.2.1 k (st (σ.2.1 k) j x), σ.2.2)
def s_b (σ : S0) (k : Nat) (j : Int) (x : Int64) : S0 := (σ.1, σ.2.1, ub σ.2.2 k (st (σ.2.2 k) j x))
def s_f (σ : S0) (k : Nat) (f : Int → Int) : S0 := (σ.1, ua σ.2.1 k f, σ.2.2)
def CX (g : gG) (q : Nat → Nat) (lb : Nat) (σ : S0) : va_W := CW g q lb σ.1 σ.2.1 σ.2.2
def MX (g : gG) (q : Nat → Nat) (lb : Nat) (σ : S0) : va_W := MW g q lb σ.1 σ.2.1 σ.2.2
def n_m (σ : S0) : Prop := (∀ i, rg (σ.1 i)) ∧ ∀ k j, rg (σ.2.1 k j)
theorem n_v {σ : S0} {i : Nat} {x : Int} (h : n_m σ) (r : rg x) : n_m (s_v σ i x) := ⟨fun j => by
  show rg (up σ.1 i x j)
  unfold up
  by_cases z : j = i
  · rw [if_pos z]; exact r
  · rw [if_neg z]; exact h.1 j, h.2⟩
theorem n_f {σ : S0} {k : Nat} {f : Int → Int} (h : n_m σ) (r : ∀ j, rg (f j)) : n_m (s_f σ k f) := ⟨h.1, fun i j => by
  show rg (ua σ.2.1 k f i j)
  unfold ua
  by_cases z : i = k
  · rw [if_pos z]; exact r j
  · rw [if_neg z]; exact h.2 i j⟩
theorem n_st {f : Int → Int} {j x : Int} (h : ∀ i, rg (f i)) (r : rg x) : ∀ i, rg (st f j x i) := fun i => by
  unfold st
  by_cases z : i = j
  · rw [if_pos z]; exact r
  · rw [if_neg z]; exact h i
theorem n_a {σ : S0} {k : Nat} {j x : Int} (h : n_m σ) (r : rg x) : n_m (s_a σ k j x) := n_f h (n_st (h.2 k) r)
theorem n_b {σ : S0} {k : Nat} {j : Int} {x : Int64} (h : n_m σ) : n_m (s_b σ k j x) := h
def f_r (wv wa wb : List Nat) (σ τ : S0) : Prop := (∀ i, i ∉ wv → τ.1 i = σ.1 i) ∧ (∀ k, k ∉ wa → τ.2.1 k = σ.2.1 k) ∧ (∀ k, k ∉ wb → τ.2.2 k = σ.2.2 k)
theorem f_0 {wv wa wb : List Nat} {σ : S0} : f_r wv wa wb σ σ := ⟨fun _ _ => rfl, fun _ _ => rfl, fun _ _ => rfl⟩
theorem f_v {wv wa wb : List Nat} {σ τ : S0} {i : Nat} {x : Int} (h : f_r wv wa wb σ τ) (hi : i ∈ wv) : f_r wv wa wb σ (s_v τ i x) := ⟨fun j hj => by
  show up τ.1 i x j = σ.1 j
  unfold up
  rw [if_neg (show ¬ j = i from fun z => hj (by rw [z]; exact hi))]; exact h.1 j hj, h.2.1, h.2.2⟩
theorem f_f {wv wa wb : List Nat} {σ τ : S0} {k : Nat} {f : Int → Int} (h : f_r wv wa wb σ τ) (hi : k ∈ wa) : f_r wv wa wb σ (s_f τ k f) := ⟨h.1, fun j hj => by
  show ua τ.2.1 k f j = σ.2.1 j
  unfold ua
  rw [if_neg (show ¬ j = k from fun z => hj (by rw [z]; exact hi))]; exact h.2.1 j hj, h.2.2⟩
theorem f_a {wv wa wb : List Nat} {σ τ : S0} {k : Nat} {j x : Int} (h : f_r wv wa wb σ τ) (hi : k ∈ wa) : f_r wv wa wb σ (s_a τ k j x) := f_f h hi
theorem f_b {wv wa wb : List Nat} {σ τ : S0} {k : Nat} {i : Int} {x : Int64} (h : f_r wv wa wb σ τ) (hi : k ∈ wb) : f_r wv wa wb σ (s_b τ k i x) := ⟨h.1, h.2.1, fun j hj => by
  show ub τ.2.2 k _ j = σ.2.2 j
  unfold ub
  rw [if_neg (show ¬ j = k from fun z => hj (by rw [z]; exact hi))]; exact h.2.2 j hj⟩
theorem f_s {a1 a2 : List Nat} (h : a1.all (fun i => a2.contains i) = true) {i : Nat} (hi : i ∉ a2) : i ∉ a1 := fun z => hi (by
  have := List.all_eq_true.mp h i z
  exact List.elem_iff.mp this)
theorem f_t {wv wa wb cv ca cb : List Nat} {σ τ υ : S0} (h : f_r wv wa wb σ τ) (h2 : f_r cv ca cb τ υ) (e1 : cv.all (fun i => wv.contains i) = true) (e2 : ca.all (fun i => wa.contains i) = true) (e3 : cb.all (fun i => wb.contains i) = true) : f_r wv wa wb σ υ :=
  ⟨fun i hi => (h2.1 i (f_s e1 hi)).trans (h.1 i hi), fun i hi => (h2.2.1 i (f_s e2 hi)).trans (h.2.1 i hi), fun i hi => (h2.2.2 i (f_s e3 hi)).trans (h.2.2 i hi)⟩
/-- what a method's call gives back: an int, a long, nothing; with the state that is then, or none changed -/
abbrev p_I (X : S0 → va_W) (wv wa wb : List Nat) (σ : S0) (Q : Int → S0 → Prop) : Int32 → va_W → Prop := fun r w => ∃ (x : Int) (τ : S0), rg x ∧ r = I x ∧ n_m τ ∧ f_r wv wa wb σ τ ∧ w = X τ ∧ Q x τ
abbrev p_L (X : S0 → va_W) (wv wa wb : List Nat) (σ : S0) (Q : Int64 → S0 → Prop) : Int64 → va_W → Prop := fun r w => ∃ (τ : S0), n_m τ ∧ f_r wv wa wb σ τ ∧ w = X τ ∧ Q r τ
abbrev p_V (X : S0 → va_W) (wv wa wb : List Nat) (σ : S0) (Q : S0 → Prop) : va_W → Prop := fun w => ∃ (τ : S0), n_m τ ∧ f_r wv wa wb σ τ ∧ w = X τ ∧ Q τ
abbrev p_i (X : S0 → va_W) (σ : S0) (Q : Int → Prop) : Int32 → va_W → Prop := fun r w => ∃ x : Int, rg x ∧ r = I x ∧ w = X σ ∧ Q x
abbrev p_l (X : S0 → va_W) (σ : S0) (Q : Int64 → Prop) : Int64 → va_W → Prop := fun r w => w = X σ ∧ Q r
theorem rg_ix {x n : Int} (h0 : 0 ≤ x) (h1 : x < n) (hn : n ≤ 2147483647) : rg x := ⟨by omega, by omega⟩
theorem rg_bl {x : Int} (h0 : 0 ≤ x) (h1 : x ≤ 1) : rg x := ⟨by omega, by omega⟩
theorem nzI {x : Int} (h0 : 0 ≤ x) (h1 : x ≤ 1) : narrow .boolean (.int (I x)) = .int (I x) := by
  rcases (show x = 0 ∨ x = 1 by omega) with rfl | rfl <;> decide
theorem fzI {x : Int} (h : 0 ≤ x ∧ x ≤ 1) : fits FieldType.boolean (Value.int (I x)) = true := by
  rcases (show x = 0 ∨ x = 1 by omega) with rfl | rfl <;> decide
theorem bi_sw {x : Int} (lo hi : Int) : (x < lo ∨ hi < x) ∨ ∃ k : Nat, (k : Int) ≤ hi - lo ∧ x = lo + (k : Int) := by
  by_cases h : x < lo ∨ hi < x
  · exact Or.inl h
  · exact Or.inr ⟨(x - lo).toNat, by omega, by omega⟩
theorem rng_map (ws : va_W) : (List.range ws.length).map (fun i => ws[i]?) = ws.map some := by
  apply List.ext_getElem?
  intro i
  rw [List.getElem?_map, List.getElem?_map]
  by_cases h : i < ws.length
  · rw [List.getElem?_range h, List.getElem?_eq_getElem h]
    show some (ws[i]?) = some (some ws[i])
    rw [List.getElem?_eq_getElem h]
  · rw [List.getElem?_eq_none (by rw [List.length_range]; omega), List.getElem?_eq_none (by omega)]; rfl
theorem d_full {A : Nat → Prop} {ws : va_W} {H0 H : Heap} {locs : List Loc} (hD : va_D A ws) (hS : va_S A H0 H locs) (hA : ∀ q, H0.size ≤ q → A q) : ∀ q, va_A ws H.size q → A q := va_free hD hS hA (List.range ws.length) (rng_map ws)
def j_shl (x : Int64) (y : Int) : Int64 := x <<< ((I y).toInt64 &&& 63)
def j_shr (x : Int64) (y : Int) : Int64 := x >>> ((I y).toInt64 &&& 63)
def j_ushr (x : Int64) (y : Int) : Int64 := (x.toUInt64 >>> ((I y).toInt64.toUInt64 &&& Int64.toUInt64 63)).toInt64
def j_of (x : Int) : Int64 := Int64.ofInt x
theorem I_toI64 {x : Int} (r : rg x) : (I x).toInt64 = j_of x := by
  have h := I_toInt r.1 r.2
  apply Int64.toInt_inj.mp
  rw [Int32.toInt_toInt64, h]
  show x = (Int64.ofInt x).toInt
  rw [Int64.toInt_ofInt]
  show x = Int.bmod x 18446744073709551616
  exact (Int.bmod_eq_of_le (by have := r.1; omega) (by have := r.2; omega)).symm
section RW5
variable {p : Program} {l : Launch} {e : Env} {R : Room} {s : State} {m : MethodId} {args : Array Value} {below : List Frame} {meth : Method} {c : Code} {H H0 : Heap} {locs : List Loc} {cells slots : Nat} {Q : State → Prop} {g : gG} {A : Nat → Prop} {q : Nat → Nat} {lb : Nat} {σ : S0} {pc : Nat} {ls : Array Slot} {rest st0 : List Value} {cc : ByteArray}
/-- calls that leave and find the whole side -/
theorem wc_I {X : S0 → va_W} {wv wa wb : List Nat} {σ : S0} {post : Int → S0 → Prop} {aa : Array Value} (hr : va_Run p l e R s m args below meth c H locs cells slots 0 0 (F0 m pc ls st0) rest (QI g (va_A (X σ) H.size) (p_I X wv wa wb σ post) aa) (va_A (X σ) H.size)) (hP : KP g (X σ) H) (hD : va_D A (X σ)) (hS : va_S A H0 H locs) (hA : ∀ q, H0.size ≤ q → A q)
    (kk : ∀ (x : Int) (τ : S0) (H1 : Heap) (locs1 : List Loc), rg x → n_m τ → f_r wv wa wb σ τ → post x τ → KP g (X τ) H1 → va_D A (X τ) → va_S A H0 H1 locs1 → W p l e R s m args below meth c H1 locs1 cells slots Q (F0 m (pc + 3) ls (.int (I x) :: rest))) : W p l e R s m args below meth c H locs cells slots Q (F0 m pc ls st0) := by
  have hF := d_full hD hS hA
  refine va_calli hr hS (fun q _ h => hF q h) hF (fun r u t H1 locs1 ht hvm hw hB hz hk hS1 => ?_)
  obtain ⟨hP1, hK1, hD1⟩ := hB
  rw [ht] at hP1
  obtain ⟨x, τ, h1, rfl, h3, h4, rfl, h6⟩ := hw
  obtain ⟨hP2, hD2⟩ := va_join (wr := []) hP hD (List.range (X σ).length) [] (rng_map _) rfl rfl (fun i hi => by cases hi) hk hF hP1 hD1
  exact kk x τ H1 locs1 h1 h3 h4 h6 hP2 hD2 hS1
theorem wc_i {X : S0 → va_W} {σ : S0} {post : Int → Prop} {aa : Array Value} (hr : va_Run p l e R s m args below meth c H locs cells slots 0 0 (F0 m pc ls st0) rest (QI g (va_A (X σ) H.size) (p_i X σ post) aa) (va_A (X σ) H.size)) (hP : KP g (X σ) H) (hD : va_D A (X σ)) (hS : va_S A H0 H locs) (hA : ∀ q, H0.size ≤ q → A q)
    (kk : ∀ (x : Int) (H1 : Heap) (locs1 : List Loc), rg x → post x → KP g (X σ) H1 → va_D A (X σ) → va_S A H0 H1 locs1 → W p l e R s m args below meth c H1 locs1 cells slots Q (F0 m (pc + 3) ls (.int (I x) :: rest))) : W p l e R s m args below meth c H locs cells slots Q (F0 m pc ls st0) := by
  have hF := d_full hD hS hA
  refine va_calli hr hS (fun q _ h => hF q h) hF (fun r u t H1 locs1 ht hvm hw hB hz hk hS1 => ?_)
  obtain ⟨hP1, hK1, hD1⟩ := hB
  rw [ht] at hP1
  obtain ⟨x, h1, rfl, rfl, h6⟩ := hw
  obtain ⟨hP2, hD2⟩ := va_join (wr := []) hP hD (List.range (X σ).length) [] (rng_map _) rfl rfl (fun i hi => by cases hi) hk hF hP1 hD1
  exact kk x H1 locs1 h1 h6 hP2 hD2 hS1
theorem wc_L {X : S0 → va_W} {wv wa wb : List Nat} {σ : S0} {post : Int64 → S0 → Prop} {aa : Array Value} (hr : va_Run p l e R s m args below meth c H locs cells slots 0 0 (F0 m pc ls st0) rest (QL g (va_A (X σ) H.size) (p_L X wv wa wb σ post) aa) (va_A (X σ) H.size)) (hP : KP g (X σ) H) (hD : va_D A (X σ)) (hS : va_S A H0 H locs) (hA : ∀ q, H0.size ≤ q → A q)
    (kk : ∀ (x : Int64) (τ : S0) (H1 : Heap) (locs1 : List Loc), n_m τ → f_r wv wa wb σ τ → post x τ → KP g (X τ) H1 → va_D A (X τ) → va_S A H0 H1 locs1 → W p l e R s m args below meth c H1 locs1 cells slots Q (F0 m (pc + 3) ls (.long x :: rest))) : W p l e R s m args below meth c H locs cells slots Q (F0 m pc ls st0) := by
  have hF := d_full hD hS hA
  refine va_calll hr hS (fun q _ h => hF q h) hF (fun r u t H1 locs1 ht hvm hw hB hz hk hS1 => ?_)
  obtain ⟨hP1, hK1, hD1⟩ := hB
  rw [ht] at hP1
  obtain ⟨τ, h3, h4, rfl, h6⟩ := hw
  obtain ⟨hP2, hD2⟩ := va_join (wr := []) hP hD (List.range (X σ).length) [] (rng_map _) rfl rfl (fun i hi => by cases hi) hk hF hP1 hD1
  exact kk r τ H1 locs1 h3 h4 h6 hP2 hD2 hS1
theorem wc_l {X : S0 → va_W} {σ : S0} {post : Int64 → Prop} {aa : Array Value} (hr : va_Run p l e R s m args below meth c H locs cells slots 0 0 (F0 m pc ls st0) rest (QL g (va_A (X σ) H.size) (p_l X σ post) aa) (va_A (X σ) H.size)) (hP : KP g (X σ) H) (hD : va_D A (X σ)) (hS : va_S A H0 H locs) (hA : ∀ q, H0.size ≤ q → A q)
    (kk : ∀ (x : Int64) (H1 : Heap) (locs1 : List Loc), post x → KP g (X σ) H1 → va_D A (X σ) → va_S A H0 H1 locs1 → W p l e R s m args below meth c H1 locs1 cells slots Q (F0 m (pc + 3) ls (.long x :: rest))) : W p l e R s m args below meth c H locs cells slots Q (F0 m pc ls st0) := by
  have hF := d_full hD hS hA
  refine va_calll hr hS (fun q _ h => hF q h) hF (fun r u t H1 locs1 ht hvm hw hB hz hk hS1 => ?_)
  obtain ⟨hP1, hK1, hD1⟩ := hB
  rw [ht] at hP1
  obtain ⟨rfl, h6⟩ := hw
  obtain ⟨hP2, hD2⟩ := va_join (wr := []) hP hD (List.range (X σ).length) [] (rng_map _) rfl rfl (fun i hi => by cases hi) hk hF hP1 hD1
  exact kk r H1 locs1 h6 hP2 hD2 hS1
theorem wc_V {X : S0 → va_W} {wv wa wb : List Nat} {σ : S0} {post : S0 → Prop} {aa : Array Value} (hr : va_Run p l e R s m args below meth c H locs cells slots 0 0 (F0 m pc ls st0) rest (QV g (va_A (X σ) H.size) (p_V X wv wa wb σ post) aa) (va_A (X σ) H.size)) (hP : KP g (X σ) H) (hD : va_D A (X σ)) (hS : va_S A H0 H locs) (hA : ∀ q, H0.size ≤ q → A q)
    (kk : ∀ (τ : S0) (H1 : Heap) (locs1 : List Loc), n_m τ → f_r wv wa wb σ τ → post τ → KP g (X τ) H1 → va_D A (X τ) → va_S A H0 H1 locs1 → W p l e R s m args below meth c H1 locs1 cells slots Q (F0 m (pc + 3) ls rest)) : W p l e R s m args below meth c H locs cells slots Q (F0 m pc ls st0) := by
  have hF := d_full hD hS hA
  refine va_callv hr hS (fun q _ h => hF q h) hF (fun u t H1 locs1 ht hvm hw hB hz hk hS1 => ?_)
  obtain ⟨hP1, hK1, hD1⟩ := hB
  rw [ht] at hP1
  obtain ⟨τ, h3, h4, rfl, h6⟩ := hw
  obtain ⟨hP2, hD2⟩ := va_join (wr := []) hP hD (List.range (X σ).length) [] (rng_map _) rfl rfl (fun i hi => by cases hi) hk hF hP1 hD1
  exact kk τ H1 locs1 h3 h4 h6 hP2 hD2 hS1
/-- arithmetic -/
theorem bi_iadd (hx : p.tables.exec = Jvm.exec) (hb : c.code = cc) {x y : Int} (hdg : decode cc pc = .ok (.iadd, 1)) (kk : W p l e R s m args below meth c H locs cells slots Q (F0 m (pc + 1) ls (.int (I (x + y)) :: rest))) : W p l e R s m args below meth c H locs cells slots Q (F0 m pc ls (.int (I y) :: .int (I x) :: rest)) := lv_iadd hx hb hdg (by rw [I_add]; exact kk)
theorem bi_isub (hx : p.tables.exec = Jvm.exec) (hb : c.code = cc) {x y : Int} (hdg : decode cc pc = .ok (.isub, 1)) (kk : W p l e R s m args below meth c H locs cells slots Q (F0 m (pc + 1) ls (.int (I (x - y)) :: rest))) : W p l e R s m args below meth c H locs cells slots Q (F0 m pc ls (.int (I y) :: .int (I x) :: rest)) := lv_isub hx hb hdg (by rw [I_sub]; exact kk)
theorem bi_imul (hx : p.tables.exec = Jvm.exec) (hb : c.code = cc) {x y : Int} (hdg : decode cc pc = .ok (.imul, 1)) (kk : W p l e R s m args below meth c H locs cells slots Q (F0 m (pc + 1) ls (.int (I (x * y)) :: rest))) : W p l e R s m args below meth c H locs cells slots Q (F0 m pc ls (.int (I y) :: .int (I x) :: rest)) := lv_imul hx hb hdg (by rw [I_mul]; exact kk)
theorem bi_hav {x : Int32} (kk : ∀ z : Int, rg z → W p l e R s m args below meth c H locs cells slots Q (F0 m pc ls (.int (I z) :: rest))) : W p l e R s m args below meth c H locs cells slots Q (F0 m pc ls (.int x :: rest)) := by
  obtain ⟨z, r, rfl⟩ := I_of x
  exact kk z r
theorem bi_tdiv {x d : Int} (r : rg x) (h0 : 0 < d) (h1 : d ≤ 2147483647) : I x / I d = I (x.tdiv d) := by
  apply Int32.toInt_inj.mp
  rw [Int32.toInt_div, I_toInt r.1 r.2, I_toInt (by omega) h1]
  show _ = (Int32.ofInt _).toInt
  rw [Int32.toInt_ofInt]
theorem tdiv_p {x d : Int} (h : 0 ≤ x) : x.tdiv d = x / d := Int.tdiv_eq_ediv_of_nonneg h
theorem tdiv_n {x d : Int} (h : x < 0) : x.tdiv d = -((-x) / d) := by
  have e := Int.neg_tdiv (-x) d
  rw [Int.neg_neg] at e
  rw [e, Int.tdiv_eq_ediv_of_nonneg (by omega)]
theorem tdiv_rg {x d : Int} (r : rg x) (h0 : 0 < d) : rg (x.tdiv d) := by
  rcases Int.lt_or_le x 0 with h | h
  · rw [tdiv_n h]
    have a := Int.ediv_nonneg (a := -x) (b := d) (by omega) (by omega)
    have b := Int.ediv_le_self (a := -x) d (by omega)
    exact ⟨by have := r.1; omega, by have := r.2; omega⟩
  · rw [tdiv_p h]
    have a := Int.ediv_nonneg (a := x) (b := d) h (by omega)
    have b := Int.ediv_le_self (a := x) d h
    exact ⟨by omega, by have := r.2; omega⟩
theorem bi_idiv (hx : p.tables.exec = Jvm.exec) (hb : c.code = cc) {x d : Int} (r : rg x) (h0 : 0 < d) (h1 : d ≤ 2147483647) (hdg : decode cc pc = .ok (.idiv, 1)) (kk : ∀ z : Int, rg z → (0 ≤ x → z = x / d) → (x < 0 → z = -((-x) / d)) → W p l e R s m args below meth c H locs cells slots Q (F0 m (pc + 1) ls (.int (I z) :: rest))) : W p l e R s m args below meth c H locs cells slots Q (F0 m pc ls (.int (I d) :: .int (I x) :: rest)) := by
  refine lv_idiv hx hb hdg (fun q => ?_) ?_
  · rw [I_0, I_eq (by omega) (by omega)] at q; omega
  · rw [bi_tdiv r h0 h1]
    exact kk _ (tdiv_rg r h0) tdiv_p tdiv_n
theorem bi_irem (hx : p.tables.exec = Jvm.exec) (hb : c.code = cc) {x d : Int} (r : rg x) (h0 : 0 < d) (h1 : d ≤ 2147483647) (hdg : decode cc pc = .ok (.irem, 1)) (kk : ∀ z : Int, rg z → (0 ≤ x → z = x % d) → (x < 0 → z = -((-x) % d)) → W p l e R s m args below meth c H locs cells slots Q (F0 m (pc + 1) ls (.int (I z) :: rest))) : W p l e R s m args below meth c H locs cells slots Q (F0 m pc ls (.int (I d) :: .int (I x) :: rest)) := by
  refine lv_irem hx hb hdg (fun q => ?_) ?_
  · rw [I_0, I_eq (by omega) (by omega)] at q; omega
  · rw [bi_tdiv r h0 h1, I_mul, I_sub]
    have hp : 0 ≤ x → x - x.tdiv d * d = x % d := fun h => by
      rw [tdiv_p h]; have := Int.mul_ediv_add_emod x d; rw [Int.mul_comm] at this; omega
    have hn : x < 0 → x - x.tdiv d * d = -((-x) % d) := fun h => by
      rw [tdiv_n h, Int.neg_mul]; have := Int.mul_ediv_add_emod (-x) d; rw [Int.mul_comm] at this; omega
    refine kk _ ?_ hp hn
    rcases Int.lt_or_le x 0 with h | h
    · rw [hn h]
      have a := Int.emod_nonneg (-x) (b := d) (by omega)
      have b := Int.emod_lt_of_pos (-x) h0
      exact ⟨by omega, by omega⟩
    · rw [hp h]
      have a := Int.emod_nonneg x (b := d) (by omega)
      have b := Int.emod_lt_of_pos x h0
      exact ⟨by omega, by omega⟩
theorem bi_iandm (hx : p.tables.exec = Jvm.exec) (hb : c.code = cc) {x : Int} (mk : Int) (k : Nat) (pp : Int) (hm : (I mk).toBitVec.toNat = 2 ^ k - 1) (hp : ((2 ^ k : Nat) : Int) = pp) (hz : (x % 4294967296) % pp = x % pp) (hdg : decode cc pc = .ok (.iand, 1)) (kk : W p l e R s m args below meth c H locs cells slots Q (F0 m (pc + 1) ls (.int (I (x % pp)) :: rest))) : W p l e R s m args below meth c H locs cells slots Q (F0 m pc ls (.int (I mk) :: .int (I x) :: rest)) := lv_iand hx hb hdg (by rw [I_and x k pp hm hp hz]; exact kk)
theorem I_nn {x : Int} (h : 0 ≤ x) (r : rg x) : (I x).toBitVec.toNat = x.toNat ∧ x.toNat < 2147483648 := by
  have h1 := r.2
  refine ⟨?_, by omega⟩
  rw [I_tn, Int.emod_eq_of_lt h (by omega)]
theorem I_ofnat {z : Int32} {n : Nat} (h : z.toBitVec.toNat = n) (hn : n < 2147483648) : z = I (n : Int) := by
  apply Int32.toBitVec_inj.mp
  apply BitVec.eq_of_toNat_eq
  rw [h, I_tn]
  omega
theorem bi_iand (hx : p.tables.exec = Jvm.exec) (hb : c.code = cc) {x y : Int} (rx : rg x) (ry : rg y) (hdg : decode cc pc = .ok (.iand, 1)) (kk : ∀ z : Int, rg z → (0 ≤ y → 0 ≤ z ∧ z ≤ y) → W p l e R s m args below meth c H locs cells slots Q (F0 m (pc + 1) ls (.int (I z) :: rest))) : W p l e R s m args below meth c H locs cells slots Q (F0 m pc ls (.int (I y) :: .int (I x) :: rest)) := by
  refine lv_iand hx hb hdg ?_
  rcases Int.lt_or_le y 0 with h | h
  · obtain ⟨z, r, ez⟩ := I_of (I x &&& I y)
    rw [ez]
    exact kk z r (fun q => by omega)
  · obtain ⟨h1, h2⟩ := I_nn h ry
    have h3 : (I x &&& I y).toBitVec.toNat = (I x).toBitVec.toNat &&& y.toNat := by
      rw [Int32.toBitVec_and, BitVec.toNat_and, h1]
    have h4 : (I x).toBitVec.toNat &&& y.toNat ≤ y.toNat := Nat.and_le_right
    rw [I_ofnat h3 (by omega)]
    exact kk _ ⟨by omega, by omega⟩ (fun _ => ⟨by omega, by omega⟩)
theorem bi_ior (hx : p.tables.exec = Jvm.exec) (hb : c.code = cc) {x y : Int} (rx : rg x) (ry : rg y) (hdg : decode cc pc = .ok (.ior, 1)) (kk : ∀ z : Int, rg z → (0 ≤ x → 0 ≤ y → x ≤ z ∧ y ≤ z) → (0 ≤ x → x ≤ 1 → 0 ≤ y → y ≤ 1 → z ≤ 1) → (0 ≤ x → x < 65536 → y = 65536 → z = x + 65536) → W p l e R s m args below meth c H locs cells slots Q (F0 m (pc + 1) ls (.int (I z) :: rest))) : W p l e R s m args below meth c H locs cells slots Q (F0 m pc ls (.int (I y) :: .int (I x) :: rest)) := by
  refine lv_ior hx hb hdg ?_
  by_cases h : 0 ≤ x ∧ 0 ≤ y
  · obtain ⟨a1, a2⟩ := I_nn h.1 rx
    obtain ⟨b1, b2⟩ := I_nn h.2 ry
    have h3 : (I x ||| I y).toBitVec.toNat = x.toNat ||| y.toNat := by rw [Int32.toBitVec_or, BitVec.toNat_or, a1, b1]
    have h4 : x.toNat ≤ x.toNat ||| y.toNat := Nat.left_le_or
    have h5 : y.toNat ≤ x.toNat ||| y.toNat := Nat.right_le_or
    have h7 : x.toNat ||| y.toNat < 2 ^ 31 := Nat.or_lt_two_pow (by omega) (by omega)
    rw [I_ofnat h3 (by omega)]
    refine kk _ ⟨by omega, by omega⟩ (fun _ _ => ⟨by omega, by omega⟩) (fun _ c1 _ c2 => ?_) (fun _ c1 c2 => ?_)
    · have h8 : x.toNat ||| y.toNat < 2 ^ 1 := Nat.or_lt_two_pow (by omega) (by omega)
      omega
    · have h9 : 2 ^ 16 * 1 + x.toNat = 2 ^ 16 * 1 ||| x.toNat := Nat.two_pow_add_eq_or_of_lt (by omega) 1
      have h10 : y.toNat = 2 ^ 16 * 1 := by omega
      rw [h10, Nat.or_comm, ← h9]
      omega
  · obtain ⟨z, r, ez⟩ := I_of (I x ||| I y)
    rw [ez]
    exact kk z r (fun q1 q2 => absurd ⟨q1, q2⟩ h) (fun q1 _ q2 _ => absurd ⟨q1, q2⟩ h) (fun q1 _ q2 => absurd ⟨q1, by omega⟩ h)
theorem bi_inot (hx : p.tables.exec = Jvm.exec) (hb : c.code = cc) {x : Int} (hdg : decode cc pc = .ok (.ixor, 1)) (kk : W p l e R s m args below meth c H locs cells slots Q (F0 m (pc + 1) ls (.int (I (-1 - x)) :: rest))) : W p l e R s m args below meth c H locs cells slots Q (F0 m pc ls (.int (I (-1)) :: .int (I x) :: rest)) := lv_ixor hx hb hdg (by rw [I_xor]; exact kk)
theorem bi_ishr (hx : p.tables.exec = Jvm.exec) (hb : c.code = cc) {x : Int} (h0 : 0 ≤ x) (h1 : x ≤ 2147483647) {y : Int} (k : Nat) (pp : Int) (hs : ((I y &&& 31).toBitVec.smod 32).toNat = k) (hp : ((2 ^ k : Nat) : Int) = pp) (hdg : decode cc pc = .ok (.ishr, 1)) (kk : W p l e R s m args below meth c H locs cells slots Q (F0 m (pc + 1) ls (.int (I (x / pp)) :: rest))) : W p l e R s m args below meth c H locs cells slots Q (F0 m pc ls (.int (I y) :: .int (I x) :: rest)) := lv_ishr hx hb hdg (by rw [I_shr h0 h1 (I y &&& 31) k pp hs hp]; exact kk)
theorem i2c_I (x : Int) : ((I x).toUInt32 % 65536).toInt32 = I (x % 65536) := by
  apply Int32.toBitVec_inj.mp
  apply BitVec.eq_of_toNat_eq
  rw [I_tn]
  have h1 : ((I x).toUInt32 % 65536).toInt32.toBitVec.toNat = ((I x).toUInt32 % 65536).toNat := rfl
  rw [h1, UInt32.toNat_mod]
  have h2 : (I x).toUInt32.toNat = (I x).toBitVec.toNat := rfl
  rw [h2, I_tn]
  show (x % 4294967296).toNat % 65536 = _
  omega
theorem bi_i2c (hx : p.tables.exec = Jvm.exec) (hb : c.code = cc) {x : Int} (hdg : decode cc pc = .ok (.i2c, 1)) (kk : ∀ z : Int, 0 ≤ z → z ≤ 65535 → z = x % 65536 → W p l e R s m args below meth c H locs cells slots Q (F0 m (pc + 1) ls (.int (I z) :: rest))) : W p l e R s m args below meth c H locs cells slots Q (F0 m pc ls (.int (I x) :: rest)) := lv_i2c hx hb hdg (i2c_I x) (kk _ (by omega) (by omega) rfl)
theorem bi_l2i (hx : p.tables.exec = Jvm.exec) (hb : c.code = cc) {x : Int64} (hdg : decode cc pc = .ok (.l2i, 1)) (kk : ∀ z : Int, rg z → (rg x.toInt → z = x.toInt) → W p l e R s m args below meth c H locs cells slots Q (F0 m (pc + 1) ls (.int (I z) :: rest))) : W p l e R s m args below meth c H locs cells slots Q (F0 m pc ls (.long x :: rest)) := by
  obtain ⟨z, r, ez⟩ := I_of x.toInt32
  refine lv_l2i hx hb hdg ez (kk z r (fun rx => ?_))
  have h1 : x.toInt32.toInt = z := by rw [ez, I_toInt r.1 r.2]
  rw [Int64.toInt_toInt32] at h1
  rw [← h1]
  exact Int.bmod_eq_of_le (by have := rx.1; omega) (by have := rx.2; omega)
theorem bi_i2l (hx : p.tables.exec = Jvm.exec) (hb : c.code = cc) {x : Int} (r : rg x) (hdg : decode cc pc = .ok (.i2l, 1)) (kk : W p l e R s m args below meth c H locs cells slots Q (F0 m (pc + 1) ls (.long (j_of x) :: rest))) : W p l e R s m args below meth c H locs cells slots Q (F0 m pc ls (.int (I x) :: rest)) := lv_i2l hx hb hdg (I_toI64 r) kk
theorem bi_lshl (hx : p.tables.exec = Jvm.exec) (hb : c.code = cc) {x : Int64} {y : Int} (hdg : decode cc pc = .ok (.lshl, 1)) (kk : W p l e R s m args below meth c H locs cells slots Q (F0 m (pc + 1) ls (.long (j_shl x y) :: rest))) : W p l e R s m args below meth c H locs cells slots Q (F0 m pc ls (.int (I y) :: .long x :: rest)) := lv_lshl hx hb hdg rfl kk
theorem bi_lshr (hx : p.tables.exec = Jvm.exec) (hb : c.code = cc) {x : Int64} {y : Int} (hdg : decode cc pc = .ok (.lshr, 1)) (kk : W p l e R s m args below meth c H locs cells slots Q (F0 m (pc + 1) ls (.long (j_shr x y) :: rest))) : W p l e R s m args below meth c H locs cells slots Q (F0 m pc ls (.int (I y) :: .long x :: rest)) := lv_lshr hx hb hdg rfl kk
theorem bi_lushr (hx : p.tables.exec = Jvm.exec) (hb : c.code = cc) {x : Int64} {y : Int} (hdg : decode cc pc = .ok (.lushr, 1)) (kk : W p l e R s m args below meth c H locs cells slots Q (F0 m (pc + 1) ls (.long (j_ushr x y) :: rest))) : W p l e R s m args below meth c H locs cells slots Q (F0 m pc ls (.int (I y) :: .long x :: rest)) := lv_lushr hx hb hdg rfl kk
theorem cmpn {x y : Int64} : ((lg_cmp x y < 0) ↔ x < y) ∧ ((lg_cmp x y ≤ 0) ↔ x ≤ y) ∧ ((0 ≤ lg_cmp x y) ↔ y ≤ x) ∧ ((0 < lg_cmp x y) ↔ y < x) ∧ ((lg_cmp x y = 0) ↔ x = y) := ⟨lg_cmp_lt x y, lg_cmp_le x y, lg_cmp_ge x y, lg_cmp_gt x y, lg_cmp_eq x y⟩
theorem bi_lcmp_lt (hx : p.tables.exec = Jvm.exec) (hb : c.code = cc) {x y : Int64} {off : Int} {tgt : Nat} (hdg : decode cc pc = .ok (.lcmp, 1)) (hdh : decode cc (pc + 1) = .ok (.ifCond .lt off, 3)) (ht : ((pc + 1 : Nat) : Int) + off = (tgt : Int)) (kt : x < y → W p l e R s m args below meth c H locs cells slots Q (F0 m tgt ls (rest))) (kf : y ≤ x → W p l e R s m args below meth c H locs cells slots Q (F0 m (pc + 1 + 3) ls (rest))) : W p l e R s m args below meth c H locs cells slots Q (F0 m pc ls (.long y :: .long x :: rest)) := W.lcmp hx hb hdg (lv_if_lt hx hb hdh ht (fun h => kt ((lg_cmp_lt x y).mp h)) (fun h => kf (Int64.not_lt.mp (fun q => h ((lg_cmp_lt x y).mpr q)))))
theorem bi_lcmp_le (hx : p.tables.exec = Jvm.exec) (hb : c.code = cc) {x y : Int64} {off : Int} {tgt : Nat} (hdg : decode cc pc = .ok (.lcmp, 1)) (hdh : decode cc (pc + 1) = .ok (.ifCond .le off, 3)) (ht : ((pc + 1 : Nat) : Int) + off = (tgt : Int)) (kt : x ≤ y → W p l e R s m args below meth c H locs cells slots Q (F0 m tgt ls (rest))) (kf : y < x → W p l e R s m args below meth c H locs cells slots Q (F0 m (pc + 1 + 3) ls (rest))) : W p l e R s m args below meth c H locs cells slots Q (F0 m pc ls (.long y :: .long x :: rest)) := W.lcmp hx hb hdg (lv_if_le hx hb hdh ht (fun h => kt ((lg_cmp_le x y).mp h)) (fun h => kf (Int64.not_le.mp (fun q => h ((lg_cmp_le x y).mpr q)))))
theorem bi_lcmp_ge (hx : p.tables.exec = Jvm.exec) (hb : c.code = cc) {x y : Int64} {off : Int} {tgt : Nat} (hdg : decode cc pc = .ok (.lcmp, 1)) (hdh : decode cc (pc + 1) = .ok (.ifCond .ge off, 3)) (ht : ((pc + 1 : Nat) : Int) + off = (tgt : Int)) (kt : y ≤ x → W p l e R s m args below meth c H locs cells slots Q (F0 m tgt ls (rest))) (kf : x < y → W p l e R s m args below meth c H locs cells slots Q (F0 m (pc + 1 + 3) ls (rest))) : W p l e R s m args below meth c H locs cells slots Q (F0 m pc ls (.long y :: .long x :: rest)) := W.lcmp hx hb hdg (lv_if_ge hx hb hdh ht (fun h => kt ((lg_cmp_ge x y).mp h)) (fun h => kf (Int64.not_le.mp (fun q => h ((lg_cmp_ge x y).mpr q)))))
theorem bi_lcmp_gt (hx : p.tables.exec = Jvm.exec) (hb : c.code = cc) {x y : Int64} {off : Int} {tgt : Nat} (hdg : decode cc pc = .ok (.lcmp, 1)) (hdh : decode cc (pc + 1) = .ok (.ifCond .gt off, 3)) (ht : ((pc + 1 : Nat) : Int) + off = (tgt : Int)) (kt : y < x → W p l e R s m args below meth c H locs cells slots Q (F0 m tgt ls (rest))) (kf : x ≤ y → W p l e R s m args below meth c H locs cells slots Q (F0 m (pc + 1 + 3) ls (rest))) : W p l e R s m args below meth c H locs cells slots Q (F0 m pc ls (.long y :: .long x :: rest)) := W.lcmp hx hb hdg (lv_if_gt hx hb hdh ht (fun h => kt ((lg_cmp_gt x y).mp h)) (fun h => kf (Int64.not_lt.mp (fun q => h ((lg_cmp_gt x y).mpr q)))))
theorem bi_lcmp_eq (hx : p.tables.exec = Jvm.exec) (hb : c.code = cc) {x y : Int64} {off : Int} {tgt : Nat} (hdg : decode cc pc = .ok (.lcmp, 1)) (hdh : decode cc (pc + 1) = .ok (.ifCond .eq off, 3)) (ht : ((pc + 1 : Nat) : Int) + off = (tgt : Int)) (kt : x = y → W p l e R s m args below meth c H locs cells slots Q (F0 m tgt ls (rest))) (kf : ¬ x = y → W p l e R s m args below meth c H locs cells slots Q (F0 m (pc + 1 + 3) ls (rest))) : W p l e R s m args below meth c H locs cells slots Q (F0 m pc ls (.long y :: .long x :: rest)) := W.lcmp hx hb hdg (lv_if_eq hx hb hdh ht (fun h => kt ((lg_cmp_eq x y).mp h)) (fun h => kf (id (fun q => h ((lg_cmp_eq x y).mpr q)))))
theorem bi_lcmp_ne (hx : p.tables.exec = Jvm.exec) (hb : c.code = cc) {x y : Int64} {off : Int} {tgt : Nat} (hdg : decode cc pc = .ok (.lcmp, 1)) (hdh : decode cc (pc + 1) = .ok (.ifCond .ne off, 3)) (ht : ((pc + 1 : Nat) : Int) + off = (tgt : Int)) (kt : ¬ x = y → W p l e R s m args below meth c H locs cells slots Q (F0 m tgt ls (rest))) (kf : x = y → W p l e R s m args below meth c H locs cells slots Q (F0 m (pc + 1 + 3) ls (rest))) : W p l e R s m args below meth c H locs cells slots Q (F0 m pc ls (.long y :: .long x :: rest)) := W.lcmp hx hb hdg (lv_if_ne hx hb hdh ht (fun h => kt (fun q => h ((lg_cmp_eq x y).mpr q))) (fun h => kf ((lg_cmp_eq x y).mp h)))
theorem bi_mmin {cc : ByteArray} (hx : p.tables.exec = Jvm.exec) (hb : c.code = cc) (hml : c.maxLocals = ls.size) {own : String} {index : Nat} (hown : s.vm.findClass own = some m.cls) (hlink : (Cond.methodLink own index Lib.Math.min.name).before args s = true) (hstat : (Cond.static Lib.Math.min.name).before args s = true) (hini : (Cond.initialized "java/lang/Math").before args s = true) (hcode : (Cond.code Lib.Math.min.name Lib.Math.min.code 2 (some .int)).before args s = true)
    (hframes : 1 ≤ R.frames) (hlocals : (rest.map fun v => v.category).sum + 13 ≤ R.locals) (hc : cells ≤ R.cells) (hs : slots ≤ R.slots) {x y : Int} (rx : rg x) (ry : rg y) (hdg : decode cc pc = .ok (.invokestatic index, 3))
    (kk : ∀ z : Int, rg z → z ≤ x → z ≤ y → (z = x ∨ z = y) → W p l e R s m args below meth c H locs cells slots Q (F0 m (pc + 3) ls (.int (I z) :: rest))) : W p l e R s m args below meth c H locs cells slots Q (F0 m pc ls (.int (I y) :: .int (I x) :: rest)) := by
  refine va_mmin hx hb hml hown hlink hstat hini hcode hframes hlocals hc hs hdg ?_
  by_cases h : I y < I x
  · rw [if_pos h]
    rw [I_lt ry rx] at h
    exact kk y ry (by omega) (by omega) (Or.inr rfl)
  · rw [if_neg h]
    rw [I_lt ry rx] at h
    exact kk x rx (by omega) (by omega) (Or.inl rfl)
theorem bi_mmax {cc : ByteArray} (hx : p.tables.exec = Jvm.exec) (hb : c.code = cc) (hml : c.maxLocals = ls.size) {own : String} {index : Nat} (hown : s.vm.findClass own = some m.cls) (hlink : (Cond.methodLink own index Lib.Math.max.name).before args s = true) (hstat : (Cond.static Lib.Math.max.name).before args s = true) (hini : (Cond.initialized "java/lang/Math").before args s = true) (hcode : (Cond.code Lib.Math.max.name Lib.Math.max.code 2 (some .int)).before args s = true)
    (hframes : 1 ≤ R.frames) (hlocals : (rest.map fun v => v.category).sum + 13 ≤ R.locals) (hc : cells ≤ R.cells) (hs : slots ≤ R.slots) {x y : Int} (rx : rg x) (ry : rg y) (hdg : decode cc pc = .ok (.invokestatic index, 3))
    (kk : ∀ z : Int, rg z → x ≤ z → y ≤ z → (z = x ∨ z = y) → W p l e R s m args below meth c H locs cells slots Q (F0 m (pc + 3) ls (.int (I z) :: rest))) : W p l e R s m args below meth c H locs cells slots Q (F0 m pc ls (.int (I y) :: .int (I x) :: rest)) := by
  refine va_mmax hx hb hml hown hlink hstat hini hcode hframes hlocals hc hs hdg ?_
  by_cases h : I x < I y
  · rw [if_pos h]
    rw [I_lt rx ry] at h
    exact kk y ry (by omega) (by omega) (Or.inr rfl)
  · rw [if_neg h]
    rw [I_lt rx ry] at h
    exact kk x rx (by omega) (by omega) (Or.inl rfl)
def c_py (f h : Int → Int) (sp dp n : Int) : Int → Int := fun j => if dp ≤ j ∧ j < dp + n then f (sp + (j - dp)) else h j
theorem n_cpy {f h : Int → Int} (hf : ∀ j, rg (f j)) (hh : ∀ j, rg (h j)) (sp dp n : Int) : ∀ j, rg (c_py f h sp dp n j) := fun j => by
  unfold c_py
  by_cases z : dp ≤ j ∧ j < dp + n
  · rw [if_pos z]; exact hf _
  · rw [if_neg z]; exact hh j
theorem cpy_I {f h : Int → Int} {sp dp n : Int} (r1 : rg sp) (r2 : rg dp) (r3 : rg n) (h1 : 0 ≤ sp) (h2 : 0 ≤ dp) (h3 : 0 ≤ n) : va_cpy (fun j : Nat => I (f (j : Int))) (fun j : Nat => I (h (j : Int))) (I sp).toNatClampNeg (I dp).toNatClampNeg (I n).toNatClampNeg = fun j : Nat => I (c_py f h sp dp n (j : Int)) := by
  funext j
  rw [I_nc h1 r1.2, I_nc h2 r2.2, I_nc h3 r3.2]
  unfold va_cpy c_py
  by_cases z : dp ≤ (j : Int) ∧ (j : Int) < dp + n
  · rw [if_pos z, if_pos (by omega)]
    show I (f ((sp.toNat + (j - dp.toNat) : Nat) : Int)) = _
    rw [show ((sp.toNat + (j - dp.toNat) : Nat) : Int) = sp + ((j : Int) - dp) from by omega]
  · rw [if_neg z, if_neg (by omega)]
theorem wr_cpy {cc : ByteArray} (hx : p.tables.exec = Jvm.exec) (hb : c.code = cc) (hml : c.maxLocals = ls.size) {own : String} {index : Nat} (hown : s.vm.findClass own = some m.cls) (hlink : (Cond.methodLink own index arraycopyName).before args s = true) (hnat : (Cond.native arraycopyName).before args s = true) (hstat : (Cond.static arraycopyName).before args s = true) (hini : (Cond.initialized "java/lang/System").before args s = true) {ws ws' : va_W}
    (hK : KK g s) (hP : KP g ws H) (hD : va_D A ws) (hS : va_S A H0 H locs) (q0 q1 : Nat) {a0 a1 : Nat} {n0 n1 : Nat} {f h : Int → Int} (ha0 : ws[q0]? = some (a0, .inl (kI g, n0, .inl (fun j => I (f (j : Int)))))) (ha1 : ws[q1]? = some (a1, .inl (kI g, n1, .inl (fun j => I (h (j : Int))))))
    {sp dp n : Int} (r1 : rg sp) (r2 : rg dp) (r3 : rg n) (h1 : 0 ≤ sp) (h2 : 0 ≤ dp) (h3 : 0 ≤ n) (h4 : sp + n ≤ (n0 : Int)) (h5 : dp + n ≤ (n1 : Int))
    (hframes : 1 ≤ R.frames) (hlocals : (rest.map fun v => v.category).sum + (nativeFrameWords "java/lang/System" "arraycopy" 5 + 11) ≤ R.locals) (hdg : decode cc pc = .ok (.invokestatic index, 3)) (hw : ws.set q1 (a1, .inl (kI g, n1, .inl (fun j => I (c_py f h sp dp n (j : Int))))) = ws')
    (kk : ∀ (H1 : Heap) (locs1 : List Loc), KP g ws' H1 → va_D A ws' → va_S A H0 H1 locs1 → W p l e R s m args below meth c H1 locs1 cells slots Q (F0 m (pc + 3) ls rest)) : W p l e R s m args below meth c H locs cells slots Q (F0 m pc ls (.int (I n) :: .int (I dp) :: .ref a1 :: .int (I sp) :: .ref a0 :: rest)) := by
  have e1 := I_nc h1 r1.2
  have e2 := I_nc h2 r2.2
  have e3 := I_nc h3 r3.2
  have neg : ∀ {x : Int}, rg x → 0 ≤ x → ¬ I x < 0 := fun {x} r h q => by
    rw [I_0, I_lt r (by omega)] at q; omega
  refine va_copyi hx hb hml hown hlink hnat hstat hini hK hP hD hS q0 q1 0 0 ha0 ha1 rfl rfl rfl (neg r1 h1) (neg r2 h2) (neg r3 h3) (by rw [e1, e3]; omega) (by rw [e2, e3]; omega) (fun _ _ => rfl) hframes hlocals hdg (fun H1 locs1 hP1 hD1 hS1 => ?_)
  rw [cpy_I r1 r2 r3 h1 h2 h3, hw] at hP1 hD1
  exact kk H1 locs1 hP1 hD1 hS1
end RW5
