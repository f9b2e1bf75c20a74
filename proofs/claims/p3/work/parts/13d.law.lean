-- the law from its entry, for every script
section LM
variable {p : Program} {l : Launch} {e : Env} {s : State} {m : MethodId} {below : List Frame} {meth : Method} {c : Code} {g : gG} {A : Nat → Prop} {b L : Nat} {xs : Nat → Int32} {t1 t2 : Nat} {ls : Array Slot} {q q2 : Nat → Nat} {k : Nat} {σ τ : S0} {H : Heap} {locs : List Loc} {cells slots : Nat} {Q : State → Prop}
theorem xsw {x : Int32} (lo hi : Int) : (x.toInt < lo ∨ hi < x.toInt) ∨ ∃ k : Nat, (k : Int) ≤ hi - lo ∧ x.toInt = lo + (k : Int) := by
  by_cases h : x.toInt < lo ∨ hi < x.toInt
  · exact Or.inl h
  · exact Or.inr ⟨(x.toInt - lo).toNat, by omega, by omega⟩
theorem lw_go {L k : Nat} (h : ¬ Int32.ofNat L - 6 < nI k) (hL : L ≤ 3072) (hk : k ≤ L) : k + 6 ≤ L := by
  have e1 : Int32.ofNat L = I (L : Int) := (I_nat (x := (L : Int)) (by omega)).symm
  have e2 : nI k = I (k : Int) := (I_nat (x := (k : Int)) (by omega)).symm
  have e3 : (6 : Int32) = I 6 := rfl
  rw [e1, e2, e3, I_sub, I_lt ⟨by omega, by omega⟩ ⟨by omega, by omega⟩] at h
  omega
theorem law_head (C0 : l_H p s m meth c g A b L xs t1 t2) (hS : va_S A s.heap H locs) (hL : L ≤ 3072) (hk : k ≤ L) {a1 a2 : Nat} (hl : lv_has ls 4 [(3, .int (nI k)), (2, .ref a2), (1, .ref a1), (0, .ref b)]) (kt : W p l e room_1 s m #[Value.ref b] below meth c H locs cells slots Q (F0 m 849 ls [])) (kf : k + 6 ≤ L → W p l e room_1 s m #[Value.ref b] below meth c H locs cells slots Q (F0 m 27 ls [])) : W p l e room_1 s m #[Value.ref b] below meth c H locs cells slots Q (F0 m 18 ls []) := by
  obtain ⟨hx, hb, hml, hown, hts, hXs, hbl, hK, hN, hX, hA, hbA⟩ := C0
  refine lv_iload_n hx hb dL_law_18 rfl (lv_at hl 0 rfl) ?_
  refine lv_aload_n hx hb dL_law_19 rfl (lv_at hl 3 rfl) ?_
  refine va_slen hx hb hXs hbl hbA hS dL_law_20 ?_
  refine lv_bipush (v := 6) hx hb dL_law_21 (by decide) ?_
  refine lv_isub hx hb dL_law_23 ?_
  exact lv_icmp_gt (tgt := 849) hx hb dL_law_24 (by decide) (fun _ => kt) (fun h => kf (lw_go h hL hk))
theorem law_exit (C0 : l_H p s m meth c g A b L xs t1 t2) (hr : meth.sig.returnType = ret) (hlocks : meth.locks = false) (hAs : ∀ q, A q → s.heap.size ≤ q) (I0 : l_I g A s q q2 k σ τ H locs cells slots) : W p l e room_1 s m #[Value.ref b] below meth c H locs cells slots (lw_Z below #[Value.ref b] s) (F0 m 849 ls []) := by
  obtain ⟨⟨hP, hD, hS⟩, ⟨hC, hM, hNc, hNm⟩, cp, bc, bs⟩ := I0
  obtain ⟨hx, hb, hml, hown, hts, hXs, hbl, hK, hN, hX, hA, hbA⟩ := C0
  have z200 : 16384 ≤ σ.1 200 ∧ σ.1 200 ≤ 1048576 := hC.1.1.1 200
  refine lv_iconst (v := 1) hx hb dL_law_849 (by decide) ?_
  refine va_forget (fun q hq => hAs _ (hS.2.2 q hq)) ?_
  refine W.widen (k := 139280) (n := 8684410) (by omega) (by omega) ?_
  exact lw_ret hx hb hr hlocks dL_law_850
theorem law_case (C0 : l_H p s m meth c g A b L xs t1 t2) (I0 : l_I g A s q q2 k σ τ H locs cells slots) (hk : k + 6 ≤ L) (hL : L ≤ 3072) (hl : lv_has ls 4 [(3, .int (nI k)), (2, .ref (q2 0)), (1, .ref (q 0)), (0, .ref b)]) (kk : l_K p l e s m below meth c g A b q q2 k ls Q) : W p l e room_1 s m #[Value.ref b] below meth c H locs cells slots Q (F0 m 27 ls []) := by
  obtain ⟨hx, hb, hml, hown, hts, hXs, hbl, hK, hN, hX, hA, hbA⟩ := id C0
  have hS := I0.1.2.2
  refine lv_aload_n hx hb dL_law_27 rfl (lv_at hl 3 rfl) ?_
  refine lv_iload_n hx hb dL_law_28 rfl (lv_at hl 0 rfl) ?_
  refine va_sld hx hb hXs hbl hbA hS (vp_in_nI (by omega) (by omega)) dL_law_29 ?_
  refine lv_bipush (v := 31) hx hb dL_law_30 (by decide) ?_
  refine lv_iand hx hb dL_law_32 ?_
  refine lv_topi (fun u eu => ?_)
  rcases xsw (x := u) 0 24 with c1 | c1
  · refine lv_tableOut (tgt := 843) hx hb dL_law_33 c1 (by decide) ?_
    obtain ⟨i1, ⟨hC, hM, hNc, hNm⟩, i3, i4, i5⟩ := I0
    exact kk q σ τ H locs _ _ rfl ⟨i1, ⟨l_C_up hC (by omega), hM, hNc, hNm⟩, i3, i4, i5⟩
  · obtain ⟨j, hj, ej⟩ := c1
    rcases (show j = 0 ∨ j = 1 ∨ j = 2 ∨ j = 3 ∨ j = 4 ∨ j = 5 ∨ j = 6 ∨ j = 7 ∨ j = 8 ∨ j = 9 ∨ j = 10 ∨ j = 11 ∨ j = 12 ∨ j = 13 ∨ j = 14 ∨ j = 15 ∨ j = 16 ∨ j = 17 ∨ j = 18 ∨ j = 19 ∨ j = 20 ∨ j = 21 ∨ j = 22 ∨ j = 23 ∨ j = 24 by omega) with rfl | rfl | rfl | rfl | rfl | rfl | rfl | rfl | rfl | rfl | rfl | rfl | rfl | rfl | rfl | rfl | rfl | rfl | rfl | rfl | rfl | rfl | rfl | rfl | rfl
    · refine lv_tableIn (tgt := 148) hx hb dL_law_33 (by rw [ej]; decide) (by rw [ej]; decide) (by rw [ej]; rfl) (by decide) ?_
      exact law_feed C0 I0 hk hL hl kk
    · refine lv_tableIn (tgt := 211) hx hb dL_law_33 (by rw [ej]; decide) (by rw [ej]; decide) (by rw [ej]; rfl) (by decide) ?_
      exact law_end C0 I0 hk hL hl kk
    · refine lv_tableIn (tgt := 234) hx hb dL_law_33 (by rw [ej]; decide) (by rw [ej]; decide) (by rw [ej]; rfl) (by decide) ?_
      exact law_read C0 I0 hk hL hl kk
    · refine lv_tableIn (tgt := 247) hx hb dL_law_33 (by rw [ej]; decide) (by rw [ej]; decide) (by rw [ej]; rfl) (by decide) ?_
      exact law_place C0 I0 hk hL hl kk
    · refine lv_tableIn (tgt := 260) hx hb dL_law_33 (by rw [ej]; decide) (by rw [ej]; decide) (by rw [ej]; rfl) (by decide) ?_
      exact law_count C0 I0 hk hL hl kk
    · refine lv_tableIn (tgt := 283) hx hb dL_law_33 (by rw [ej]; decide) (by rw [ej]; decide) (by rw [ej]; rfl) (by decide) ?_
      exact law_kind C0 I0 hk hL hl kk
    · refine lv_tableIn (tgt := 306) hx hb dL_law_33 (by rw [ej]; decide) (by rw [ej]; decide) (by rw [ej]; rfl) (by decide) ?_
      exact law_length C0 I0 hk hL hl kk
    · refine lv_tableIn (tgt := 329) hx hb dL_law_33 (by rw [ej]; decide) (by rw [ej]; decide) (by rw [ej]; rfl) (by decide) ?_
      exact law_symbol C0 I0 hk hL hl kk
    · refine lv_tableIn (tgt := 362) hx hb dL_law_33 (by rw [ej]; decide) (by rw [ej]; decide) (by rw [ej]; rfl) (by decide) ?_
      exact law_variable C0 I0 hk hL hl kk
    · refine lv_tableIn (tgt := 385) hx hb dL_law_33 (by rw [ej]; decide) (by rw [ej]; decide) (by rw [ej]; rfl) (by decide) ?_
      exact law_find C0 I0 hk hL hl kk
    · refine lv_tableIn (tgt := 408) hx hb dL_law_33 (by rw [ej]; decide) (by rw [ej]; decide) (by rw [ej]; rfl) (by decide) ?_
      exact law_frame C0 I0 hk hL hl kk
    · refine lv_tableIn (tgt := 441) hx hb dL_law_33 (by rw [ej]; decide) (by rw [ej]; decide) (by rw [ej]; rfl) (by decide) ?_
      exact law_hypothesis C0 I0 hk hL hl kk
    · refine lv_tableIn (tgt := 474) hx hb dL_law_33 (by rw [ej]; decide) (by rw [ej]; decide) (by rw [ej]; rfl) (by decide) ?_
      exact law_apart C0 I0 hk hL hl kk
    · refine lv_tableIn (tgt := 517) hx hb dL_law_33 (by rw [ej]; decide) (by rw [ej]; decide) (by rw [ej]; rfl) (by decide) ?_
      exact law_rows C0 I0 hk hL hl kk
    · refine lv_tableIn (tgt := 540) hx hb dL_law_33 (by rw [ej]; decide) (by rw [ej]; decide) (by rw [ej]; rfl) (by decide) ?_
      exact law_row C0 I0 hk hL hl kk
    · refine lv_tableIn (tgt := 573) hx hb dL_law_33 (by rw [ej]; decide) (by rw [ej]; decide) (by rw [ej]; rfl) (by decide) ?_
      exact law_from C0 I0 hk hL hl kk
    · refine lv_tableIn (tgt := 616) hx hb dL_law_33 (by rw [ej]; decide) (by rw [ej]; decide) (by rw [ej]; rfl) (by decide) ?_
      exact law_rests C0 I0 hk hL hl kk
    · refine lv_tableIn (tgt := 649) hx hb dL_law_33 (by rw [ej]; decide) (by rw [ej]; decide) (by rw [ej]; rfl) (by decide) ?_
      exact law_size C0 I0 hk hL hl kk
    · refine lv_tableIn (tgt := 672) hx hb dL_law_33 (by rw [ej]; decide) (by rw [ej]; decide) (by rw [ej]; rfl) (by decide) ?_
      exact law_print C0 I0 hk hL hl kk
    · refine lv_tableIn (tgt := 715) hx hb dL_law_33 (by rw [ej]; decide) (by rw [ej]; decide) (by rw [ej]; rfl) (by decide) ?_
      exact law_character C0 I0 hk hL hl kk
    · refine lv_tableIn (tgt := 738) hx hb dL_law_33 (by rw [ej]; decide) (by rw [ej]; decide) (by rw [ej]; rfl) (by decide) ?_
      exact law_trees C0 I0 hk hL hl kk
    · refine lv_tableIn (tgt := 761) hx hb dL_law_33 (by rw [ej]; decide) (by rw [ej]; decide) (by rw [ej]; rfl) (by decide) ?_
      exact law_equate C0 I0 hk hL hl kk
    · refine lv_tableIn (tgt := 784) hx hb dL_law_33 (by rw [ej]; decide) (by rw [ej]; decide) (by rw [ej]; rfl) (by decide) ?_
      exact law_definition C0 I0 hk hL hl kk
    · refine lv_tableIn (tgt := 807) hx hb dL_law_33 (by rw [ej]; decide) (by rw [ej]; decide) (by rw [ej]; rfl) (by decide) ?_
      exact law_apply C0 I0 hk hL hl kk
    · refine lv_tableIn (tgt := 830) hx hb dL_law_33 (by rw [ej]; decide) (by rw [ej]; decide) (by rw [ej]; rfl) (by decide) ?_
      exact law_check C0 I0 hk hL hl kk
theorem law_loop (C0 : l_H p s m meth c g A b L xs t1 t2) (hr : meth.sig.returnType = ret) (hlocks : meth.locks = false) (hAs : ∀ q, A q → s.heap.size ≤ q) (hL : L ≤ 3072) : ∀ (n k : Nat) (q : Nat → Nat) (σ τ : S0) (H : Heap) (locs : List Loc) (cells slots : Nat) (ls : Array Slot), L ≤ k + n → k ≤ L → l_I g A s q q2 k σ τ H locs cells slots → lv_has ls 4 [(3, .int (nI k)), (2, .ref (q2 0)), (1, .ref (q 0)), (0, .ref b)] → W p l e room_1 s m #[Value.ref b] below meth c H locs cells slots (lw_Z below #[Value.ref b] s) (F0 m 18 ls []) := by
  intro n
  induction n with
  | zero =>
    intro k q σ τ H locs cells slots ls hn hk I0 hl
    exact law_head C0 I0.1.2.2 hL hk hl (law_exit C0 hr hlocks hAs I0) (fun h => absurd h (by omega))
  | succ n ih =>
    intro k q σ τ H locs cells slots ls hn hk I0 hl
    refine law_head C0 I0.1.2.2 hL hk hl (law_exit C0 hr hlocks hAs I0) (fun h => law_case C0 I0 h hL hl ?_)
    intro q1 σ1 τ1 H1 locs1 cells1 slots1 eq0 I1
    obtain ⟨hx, hb, hml, hown, hts, hXs, hbl, hK, hN, hX, hA, hbA⟩ := id C0
    refine lv_iinc (v := nI (k + 6)) (lv' := [(3, .int (nI (k + 6))), (2, .ref (q2 0)), (1, .ref (q 0)), (0, .ref b)]) hx hb dL_law_843 hl (k := 0) rfl (nI_add k 6) (by decide) rfl (fun ls hl => ?_)
    refine lv_goto (tgt := 18) hx hb dL_law_846 (by decide) ?_
    exact ih (k + 6) q1 σ1 τ1 H1 locs1 cells1 slots1 ls (by omega) h I1 (by rw [eq0]; exact hl)
end LM
set_option maxRecDepth 100000 in
theorem cn_C {g : gG} {q : Nat → Nat} {x : Nat × va_E} : [125].map (fun i => (CX g q 16384 c_0 ++ [x])[i]?) = [x].map some := rfl
set_option maxRecDepth 100000 in
theorem cn_R {g : gG} {q : Nat → Nat} {x : Nat × va_E} : cm_i.map (fun i => (CX g q 16384 c_0 ++ [x])[i]?) = (CX g q 16384 c_0).map some := rfl
theorem cn_d : ∀ i ∈ cm_i, i ∉ [125] := fun i h z => by
  have h1 := List.mem_range.mp h
  have h2 := List.mem_singleton.mp z
  omega
set_option maxRecDepth 100000 in
set_option maxHeartbeats 40000000 in
/-- the law, from its entry: two objects made, then any number of calls -/
theorem whole_start {p : Program} {e : Env} {s : State} {m : MethodId} {below : List Frame} {meth : Method} {c : Code} (l : Launch) (hflags : l.flags = flags0) {b L : Nat} {xs : Nat → Int32} (hL : L ≤ 3072) (C0 : lw_At p s m meth c b L xs) : W p l e room_1 s m #[Value.ref b] below meth c s.heap [] 0 0 (lw_Z below #[Value.ref b] s) (entryFrame m ([Value.ref b] : List Value).toArray 4) := by
  obtain ⟨hx, hb, hr, hml, hown, hts0, hXs, hbl, hlocks, hgv⟩ := id C0
  have hts : ∀ w ∈ TB, w.before #[Value.ref b] s = true := fun w h => hts0 w (TB_in h)
  have hN : nbOK s := nb_of hts0
  obtain ⟨g, hK⟩ := g_known hts
  obtain ⟨t1, t2, hX⟩ := sX_known hts0 hts hgv
  have hA : ∀ q : Nat, s.heap.size ≤ q → (fun q : Nat => s.heap.size ≤ q) q := fun _ h => h
  have hAs : ∀ q : Nat, (fun q : Nat => s.heap.size ≤ q) q → s.heap.size ≤ q := fun _ h => h
  have hbA : ¬ (fun q : Nat => s.heap.size ≤ q) b := Nat.not_le.mpr hbl
  have hS : va_S (fun q : Nat => s.heap.size ≤ q) s.heap s.heap [] := va_S.rf
  have hP : KP g [] s.heap := fun k q h => by simp at h
  have hD : va_D (fun q : Nat => s.heap.size ≤ q) [] := ⟨fun i j p q h => by simp at h, fun k q h => by simp at h⟩
  generalize (fun q : Nat => s.heap.size ≤ q) = A at hX hA hAs hbA hS hD
  have hl := lv_entry ([.ref b]) (n := 4) (Nat.le_of_ble_eq_true rfl)
  rw [lg_entry_eq]
  generalize (lg_sl ([.ref b]) ++ List.replicate (4 - (lg_sl ([.ref b])).length) Slot.unset).toArray = ls at hl ⊢
  have hl : lv_has ls 4 [(0, .ref b)] := hl
  refine va_new (ci := 12) (fs := [.null, .int 0, .int 0, .int 0, .null, .null, .null, .null, .null, .null, .null, .null, .null, .null, .null, .null]) (C := RX12) (T := TX12) (N := 16) hx hb hts inX12 tyX12 tyX12_ok hown (hts _ tw_21) (hts _ tw_22) (hts _ tw_1) hK hP hD hS hA rfl (fun j hj => xdfX12 j hj) (Nat.le_of_ble_eq_true rfl) (Nat.le_of_ble_eq_true rfl) dL_law_0 (fun o1 H hP hD hS => ?_)
  have hP : KP g [(o1, .inr (12, [.null, .int 0, .int 0, .int 0, .null, .null, .null, .null, .null, .null, .null, .null, .null, .null, .null, .null]))] H := hP
  have hD : va_D A [(o1, .inr (12, [.null, .int 0, .int 0, .int 0, .null, .null, .null, .null, .null, .null, .null, .null, .null, .null, .null, .null]))] := hD
  refine W.widen (k := 1) (n := 16) (Nat.le_of_ble_eq_true rfl) (Nat.le_of_ble_eq_true rfl) ?_
  refine lv_dup hx hb dL_law_3 rfl ?_
  have hPc := hP.sub (ws' := [(o1, .inr (12, [.null, .int 0, .int 0, .int 0, .null, .null, .null, .null, .null, .null, .null, .null, .null, .null, .null, .null]))]) [0] rfl
  have hDc := hD.sub (ws' := [(o1, .inr (12, [.null, .int 0, .int 0, .int 0, .null, .null, .null, .null, .null, .null, .null, .null, .null, .null, .null, .null]))]) [0] rfl rfl
  refine xcv (wc := [(o1, .inr (12, [.null, .int 0, .int 0, .int 0, .null, .null, .null, .null, .null, .null, .null, .null, .null, .null, .null, .null]))]) (wr := []) (va_runI (As := []) (rest := [.ref o1]) ⟨hx, hb, hml, hown, hts⟩ (w_X12_init_1 l g o1 H.size) (cwI 0 hts (TB_code co_X12_init) rfl rfl rfl (hts _ tw_1) (hts _ tw_23) (hts _ tw_24) rfl (by decide +kernel) ⟨Nat.le_of_ble_eq_true rfl, Nat.le_of_ble_eq_true rfl⟩) (preS xT_bl hPc hK hN hDc xT_at) rfl rfl hl.1 rfl (lv_room (Nat.le_of_ble_eq_true rfl)) dL_law_4 ⟨Nat.le_of_ble_eq_true rfl, Nat.le_of_ble_eq_true rfl⟩) hP hD hS hA [0] [] rfl rfl rfl (by decide) (fun w1 H locs hw hP hD hS => ?_)
  obtain ⟨q, hq, rfl⟩ := hw
  have hP : KP g (CX g q 16384 c_0) H := hP
  have hD : va_D A (CX g q 16384 c_0) := hD
  refine W.widen (k := 125) (n := 1253483) (Nat.le_of_ble_eq_true rfl) (Nat.le_of_ble_eq_true rfl) ?_
  refine lv_astore_n (lv' := [(1, .ref o1), (0, .ref b)]) hx hb dL_law_7 rfl hl (by decide) rfl (fun ls hl => ?_)
  refine va_new (ci := 13) (fs := (.null :: .int 0 :: .int 0 :: .null :: .int 0 :: .null :: .null :: .int 0 :: .null :: .null :: .null :: .null :: .null :: .null :: .null :: .null :: .null :: .int 0 :: .int 0 :: .null :: .null :: .null :: .null :: .null :: .int 0 :: .null :: .null :: .null :: .int 0 :: .null :: .null :: .null :: .null :: .int 0 :: .null :: .null :: .null :: .null :: .null :: .int 0 :: .null :: .int 0 :: .int 0 :: .null :: .int 0 :: .null :: .int 0 :: .null :: .null :: .int 0 :: .null :: .int 0 :: .null :: .null :: .null :: .int 0 :: .int 0 :: .int 0 :: .int 0 :: .int 0 :: .int 0 :: .null :: .int 0 :: .null :: .int 0 :: .int 0 :: .null :: .int 0 :: .int 0 :: .int 0 :: .int 0 :: .int 0 :: .null :: .null :: .null :: .int 0 :: .null :: .int 0 :: .null :: .null :: .null :: .int 0 :: .null :: .int 0 :: .null :: .null :: .null :: .int 0 :: .int 0 :: .null :: .null :: .null :: .null :: .null :: .null :: .null :: .null :: .int 0 :: .int 0 :: .int 0 :: .null :: .null :: .int 0 :: .null :: .int 0 :: .null :: .null :: .null :: .null :: .int 0 :: .null :: .null :: .int 0 :: .null :: .null :: .int 0 :: .null :: .null :: .int 0 :: .null :: .null :: .int 0 :: .null :: .null :: .null :: .int 0 :: .null :: .null :: .null :: .null :: .null :: .null :: .null :: .null :: .null :: .null :: .null :: .null :: .int 0 :: .null :: .int 0 :: .int 0 :: .int 0 :: .null :: .null :: .null :: .null :: .null :: .null :: .null :: .int 0 :: .int 0 :: .null :: .null :: .null :: .null :: .null :: .null :: .null :: .null :: .null :: .null :: .null :: .int 0 :: .null :: .int 0 :: .null :: .null :: .null :: .null :: [])) (C := RX13) (T := TX13) (N := 170) hx hb hts inX13 tyX13 tyX13_ok hown (hts _ tw_1987) (hts _ tw_1988) (hts _ tw_15) hK hP hD hS hA rfl (fun j hj => xdfX13 j hj) (Nat.le_of_ble_eq_true rfl) (Nat.le_of_ble_eq_true rfl) dL_law_8 (fun o2 H hP hD hS => ?_)
  have hP : KP g (CX g q 16384 c_0 ++ [(o2, .inr (13, (.null :: .int 0 :: .int 0 :: .null :: .int 0 :: .null :: .null :: .int 0 :: .null :: .null :: .null :: .null :: .null :: .null :: .null :: .null :: .null :: .int 0 :: .int 0 :: .null :: .null :: .null :: .null :: .null :: .int 0 :: .null :: .null :: .null :: .int 0 :: .null :: .null :: .null :: .null :: .int 0 :: .null :: .null :: .null :: .null :: .null :: .int 0 :: .null :: .int 0 :: .int 0 :: .null :: .int 0 :: .null :: .int 0 :: .null :: .null :: .int 0 :: .null :: .int 0 :: .null :: .null :: .null :: .int 0 :: .int 0 :: .int 0 :: .int 0 :: .int 0 :: .int 0 :: .null :: .int 0 :: .null :: .int 0 :: .int 0 :: .null :: .int 0 :: .int 0 :: .int 0 :: .int 0 :: .int 0 :: .null :: .null :: .null :: .int 0 :: .null :: .int 0 :: .null :: .null :: .null :: .int 0 :: .null :: .int 0 :: .null :: .null :: .null :: .int 0 :: .int 0 :: .null :: .null :: .null :: .null :: .null :: .null :: .null :: .null :: .int 0 :: .int 0 :: .int 0 :: .null :: .null :: .int 0 :: .null :: .int 0 :: .null :: .null :: .null :: .null :: .int 0 :: .null :: .null :: .int 0 :: .null :: .null :: .int 0 :: .null :: .null :: .int 0 :: .null :: .null :: .int 0 :: .null :: .null :: .null :: .int 0 :: .null :: .null :: .null :: .null :: .null :: .null :: .null :: .null :: .null :: .null :: .null :: .null :: .int 0 :: .null :: .int 0 :: .int 0 :: .int 0 :: .null :: .null :: .null :: .null :: .null :: .null :: .null :: .int 0 :: .int 0 :: .null :: .null :: .null :: .null :: .null :: .null :: .null :: .null :: .null :: .null :: .null :: .int 0 :: .null :: .int 0 :: .null :: .null :: .null :: .null :: [])))]) H := hP
  have hD : va_D A (CX g q 16384 c_0 ++ [(o2, .inr (13, (.null :: .int 0 :: .int 0 :: .null :: .int 0 :: .null :: .null :: .int 0 :: .null :: .null :: .null :: .null :: .null :: .null :: .null :: .null :: .null :: .int 0 :: .int 0 :: .null :: .null :: .null :: .null :: .null :: .int 0 :: .null :: .null :: .null :: .int 0 :: .null :: .null :: .null :: .null :: .int 0 :: .null :: .null :: .null :: .null :: .null :: .int 0 :: .null :: .int 0 :: .int 0 :: .null :: .int 0 :: .null :: .int 0 :: .null :: .null :: .int 0 :: .null :: .int 0 :: .null :: .null :: .null :: .int 0 :: .int 0 :: .int 0 :: .int 0 :: .int 0 :: .int 0 :: .null :: .int 0 :: .null :: .int 0 :: .int 0 :: .null :: .int 0 :: .int 0 :: .int 0 :: .int 0 :: .int 0 :: .null :: .null :: .null :: .int 0 :: .null :: .int 0 :: .null :: .null :: .null :: .int 0 :: .null :: .int 0 :: .null :: .null :: .null :: .int 0 :: .int 0 :: .null :: .null :: .null :: .null :: .null :: .null :: .null :: .null :: .int 0 :: .int 0 :: .int 0 :: .null :: .null :: .int 0 :: .null :: .int 0 :: .null :: .null :: .null :: .null :: .int 0 :: .null :: .null :: .int 0 :: .null :: .null :: .int 0 :: .null :: .null :: .int 0 :: .null :: .null :: .int 0 :: .null :: .null :: .null :: .int 0 :: .null :: .null :: .null :: .null :: .null :: .null :: .null :: .null :: .null :: .null :: .null :: .null :: .int 0 :: .null :: .int 0 :: .int 0 :: .int 0 :: .null :: .null :: .null :: .null :: .null :: .null :: .null :: .int 0 :: .int 0 :: .null :: .null :: .null :: .null :: .null :: .null :: .null :: .null :: .null :: .null :: .null :: .int 0 :: .null :: .int 0 :: .null :: .null :: .null :: .null :: [])))]) := hD
  refine W.widen (k := 126) (n := 1253653) (Nat.le_of_ble_eq_true rfl) (Nat.le_of_ble_eq_true rfl) ?_
  refine lv_dup hx hb dL_law_11 rfl ?_
  have hPc := hP.sub (ws' := [(o2, .inr (13, (.null :: .int 0 :: .int 0 :: .null :: .int 0 :: .null :: .null :: .int 0 :: .null :: .null :: .null :: .null :: .null :: .null :: .null :: .null :: .null :: .int 0 :: .int 0 :: .null :: .null :: .null :: .null :: .null :: .int 0 :: .null :: .null :: .null :: .int 0 :: .null :: .null :: .null :: .null :: .int 0 :: .null :: .null :: .null :: .null :: .null :: .int 0 :: .null :: .int 0 :: .int 0 :: .null :: .int 0 :: .null :: .int 0 :: .null :: .null :: .int 0 :: .null :: .int 0 :: .null :: .null :: .null :: .int 0 :: .int 0 :: .int 0 :: .int 0 :: .int 0 :: .int 0 :: .null :: .int 0 :: .null :: .int 0 :: .int 0 :: .null :: .int 0 :: .int 0 :: .int 0 :: .int 0 :: .int 0 :: .null :: .null :: .null :: .int 0 :: .null :: .int 0 :: .null :: .null :: .null :: .int 0 :: .null :: .int 0 :: .null :: .null :: .null :: .int 0 :: .int 0 :: .null :: .null :: .null :: .null :: .null :: .null :: .null :: .null :: .int 0 :: .int 0 :: .int 0 :: .null :: .null :: .int 0 :: .null :: .int 0 :: .null :: .null :: .null :: .null :: .int 0 :: .null :: .null :: .int 0 :: .null :: .null :: .int 0 :: .null :: .null :: .int 0 :: .null :: .null :: .int 0 :: .null :: .null :: .null :: .int 0 :: .null :: .null :: .null :: .null :: .null :: .null :: .null :: .null :: .null :: .null :: .null :: .null :: .int 0 :: .null :: .int 0 :: .int 0 :: .int 0 :: .null :: .null :: .null :: .null :: .null :: .null :: .null :: .int 0 :: .int 0 :: .null :: .null :: .null :: .null :: .null :: .null :: .null :: .null :: .null :: .null :: .null :: .int 0 :: .null :: .int 0 :: .null :: .null :: .null :: .null :: [])))]) [125] (lw_fm _ _ _ cn_C)
  have hDc := hD.sub (ws' := [(o2, .inr (13, (.null :: .int 0 :: .int 0 :: .null :: .int 0 :: .null :: .null :: .int 0 :: .null :: .null :: .null :: .null :: .null :: .null :: .null :: .null :: .null :: .int 0 :: .int 0 :: .null :: .null :: .null :: .null :: .null :: .int 0 :: .null :: .null :: .null :: .int 0 :: .null :: .null :: .null :: .null :: .int 0 :: .null :: .null :: .null :: .null :: .null :: .int 0 :: .null :: .int 0 :: .int 0 :: .null :: .int 0 :: .null :: .int 0 :: .null :: .null :: .int 0 :: .null :: .int 0 :: .null :: .null :: .null :: .int 0 :: .int 0 :: .int 0 :: .int 0 :: .int 0 :: .int 0 :: .null :: .int 0 :: .null :: .int 0 :: .int 0 :: .null :: .int 0 :: .int 0 :: .int 0 :: .int 0 :: .int 0 :: .null :: .null :: .null :: .int 0 :: .null :: .int 0 :: .null :: .null :: .null :: .int 0 :: .null :: .int 0 :: .null :: .null :: .null :: .int 0 :: .int 0 :: .null :: .null :: .null :: .null :: .null :: .null :: .null :: .null :: .int 0 :: .int 0 :: .int 0 :: .null :: .null :: .int 0 :: .null :: .int 0 :: .null :: .null :: .null :: .null :: .int 0 :: .null :: .null :: .int 0 :: .null :: .null :: .int 0 :: .null :: .null :: .int 0 :: .null :: .null :: .int 0 :: .null :: .null :: .null :: .int 0 :: .null :: .null :: .null :: .null :: .null :: .null :: .null :: .null :: .null :: .null :: .null :: .null :: .int 0 :: .null :: .int 0 :: .int 0 :: .int 0 :: .null :: .null :: .null :: .null :: .null :: .null :: .null :: .int 0 :: .int 0 :: .null :: .null :: .null :: .null :: .null :: .null :: .null :: .null :: .null :: .null :: .null :: .int 0 :: .null :: .int 0 :: .null :: .null :: .null :: .null :: [])))]) [125] rfl cn_C
  refine xcv (wc := [(o2, .inr (13, (.null :: .int 0 :: .int 0 :: .null :: .int 0 :: .null :: .null :: .int 0 :: .null :: .null :: .null :: .null :: .null :: .null :: .null :: .null :: .null :: .int 0 :: .int 0 :: .null :: .null :: .null :: .null :: .null :: .int 0 :: .null :: .null :: .null :: .int 0 :: .null :: .null :: .null :: .null :: .int 0 :: .null :: .null :: .null :: .null :: .null :: .int 0 :: .null :: .int 0 :: .int 0 :: .null :: .int 0 :: .null :: .int 0 :: .null :: .null :: .int 0 :: .null :: .int 0 :: .null :: .null :: .null :: .int 0 :: .int 0 :: .int 0 :: .int 0 :: .int 0 :: .int 0 :: .null :: .int 0 :: .null :: .int 0 :: .int 0 :: .null :: .int 0 :: .int 0 :: .int 0 :: .int 0 :: .int 0 :: .null :: .null :: .null :: .int 0 :: .null :: .int 0 :: .null :: .null :: .null :: .int 0 :: .null :: .int 0 :: .null :: .null :: .null :: .int 0 :: .int 0 :: .null :: .null :: .null :: .null :: .null :: .null :: .null :: .null :: .int 0 :: .int 0 :: .int 0 :: .null :: .null :: .int 0 :: .null :: .int 0 :: .null :: .null :: .null :: .null :: .int 0 :: .null :: .null :: .int 0 :: .null :: .null :: .int 0 :: .null :: .null :: .int 0 :: .null :: .null :: .int 0 :: .null :: .null :: .null :: .int 0 :: .null :: .null :: .null :: .null :: .null :: .null :: .null :: .null :: .null :: .null :: .null :: .null :: .int 0 :: .null :: .int 0 :: .int 0 :: .int 0 :: .null :: .null :: .null :: .null :: .null :: .null :: .null :: .int 0 :: .int 0 :: .null :: .null :: .null :: .null :: .null :: .null :: .null :: .null :: .null :: .null :: .null :: .int 0 :: .null :: .int 0 :: .null :: .null :: .null :: .null :: [])))]) (wr := CX g q 16384 c_0) (va_runI (As := []) (rest := [.ref o2]) ⟨hx, hb, hml, hown, hts⟩ (w_X13_init_1 l g o2 H.size) (cwI 0 hts (TB_code co_X13_init) rfl rfl rfl (hts _ tw_15) (hts _ tw_1989) (hts _ tw_1990) rfl (by decide +kernel) ⟨Nat.le_of_ble_eq_true rfl, Nat.le_of_ble_eq_true rfl⟩) (preS xT_bl hPc hK hN hDc xT_at) rfl rfl hl.1 rfl (lv_room (Nat.le_of_ble_eq_true rfl)) dL_law_12 ⟨Nat.le_of_ble_eq_true rfl, Nat.le_of_ble_eq_true rfl⟩) hP hD hS hA [125] cm_i cn_C cn_R cm_in cn_d (fun w1 H locs hw hP hD hS => ?_)
  obtain ⟨q2, hq2, rfl⟩ := hw
  have hP : KP g (CX g q 16384 c_0 ++ MX g q2 0 m_0) H := hP
  have hD : va_D A (CX g q 16384 c_0 ++ MX g q2 0 m_0) := hD
  refine W.widen (k := 241) (n := 4278646) (Nat.le_of_ble_eq_true rfl) (Nat.le_of_ble_eq_true rfl) ?_
  refine lv_astore_n (lv' := [(2, .ref o2), (1, .ref o1), (0, .ref b)]) hx hb dL_law_15 rfl hl (by decide) rfl (fun ls hl => ?_)
  refine lv_iconst (v := 0) hx hb dL_law_16 (by decide) ?_
  refine lv_istore_n (lv' := [(3, .int 0), (2, .ref o2), (1, .ref o1), (0, .ref b)]) hx hb dL_law_17 rfl hl (by decide) rfl (fun ls hl => ?_)
  have e16 : L2 c_0 = 16384 := rfl
  refine law_loop (g := g) (A := A) (b := b) (xs := xs) (t1 := t1) (t2 := t2) (q2 := q2) ⟨hx, hb, hml, hown, hts, hXs, hbl, hK, hN, hX, hA, hbA⟩ hr hlocks hAs hL L 0 q c_0 m_0 H locs 241 4278646 ls (by omega) (by omega) ⟨⟨by rw [e16]; exact hP, by rw [e16]; exact hD, hS⟩, ⟨i_C, i_M, i_nc, i_nM⟩, ⟨rfl, rfl⟩, by decide, by decide⟩ ?_
  rw [hq, hq2]
  exact hl
