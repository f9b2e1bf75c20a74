-- the worlds of the two sides, their intervals, and rows over them
def up (v : Nat → Int) (i : Nat) (x : Int) : Nat → Int := fun j => if j = i then x else v j
def ua (a : Nat → Int → Int) (k : Nat) (f : Int → Int) : Nat → Int → Int := fun j => if j = k then f else a j
def ub (b : Nat → Int → Int64) (k : Nat) (f : Int → Int64) : Nat → Int → Int64 := fun j => if j = k then f else b j
def st {α : Type} (f : Int → α) (e : Int) (x : α) : Int → α := fun j => if j = e then x else f j
theorem st_s {α : Type} (f : Int → α) (e : Int) (x : α) : st f e x e = x := if_pos rfl
theorem st_n {α : Type} (f : Int → α) {e j : Int} (x : α) (h : j ≠ e) : st f e x j = f j := if_neg h
theorem st_r {f lo hi : Int → Int} {e x : Int} (h : ∀ j, lo j ≤ f j ∧ f j ≤ hi j) (hx : lo e ≤ x ∧ x ≤ hi e) : ∀ j, lo j ≤ st f e x j ∧ st f e x j ≤ hi j := fun j => by
  by_cases q : j = e
  · rw [q, st_s]; exact hx
  · rw [st_n f x q]; exact h j
def vsrc (x : Int) (t : Nat) : Value := if x = 0 then .null else .ref t
theorem upd_I {f : Int → Int} {e x : Int} (h0 : 0 ≤ e) (h1 : e ≤ 2147483647) : upd (fun j : Nat => I (f (j : Int))) (I e).toNatClampNeg (I x) = fun j : Nat => I (st f e x (j : Int)) := by
  funext j
  rw [I_nc h0 h1]
  unfold upd st
  by_cases q : j = e.toNat
  · rw [if_pos q, if_pos (by omega)]
  · rw [if_neg q, if_neg (by omega)]
theorem updL_I {f : Int → Int64} {e : Int} {x : Int64} (h0 : 0 ≤ e) (h1 : e ≤ 2147483647) : vp_updL (fun j : Nat => f (j : Int)) (I e).toNatClampNeg x = fun j : Nat => st f e x (j : Int) := by
  funext j
  rw [I_nc h0 h1]
  unfold vp_updL st
  by_cases q : j = e.toNat
  · rw [if_pos q, if_pos (by omega)]
  · rw [if_neg q, if_neg (by omega)]
section WR
variable {p : Program} {l : Launch} {e : Env} {R : Room} {s : State} {m : MethodId} {args : Array Value} {below : List Frame} {meth : Method} {c : Code} {H H0 : Heap} {locs : List Loc} {cells slots : Nat} {Q : State → Prop} {g : gG} {A : Nat → Prop} {ws ws' : va_W} {pc : Nat} {ls : Array Slot} {rest : List Value} {cc : ByteArray} {ad : Nat}
theorem wr_ald (hx : p.tables.exec = Jvm.exec) (hb : c.code = cc) (hK : KK g s) (hP : KP g ws H) (q0 : Nat) {n : Nat} {f : Int → Int} (ha : ws[q0]? = some (ad, .inl (kI g, n, .inl (fun j => I (f (j : Int)))))) {i : Int} (h0 : 0 ≤ i) (h1 : i < (n : Int)) (hn : n < 2 ^ 31) (hdg : decode cc pc = .ok (.iaload, 1)) (kk : W p l e R s m args below meth c H locs cells slots Q (F0 m (pc + 1) ls (.int (I (f i)) :: rest))) : W p l e R s m args below meth c H locs cells slots Q (F0 m pc ls (.int (I i) :: .ref ad :: rest)) :=
  va_iald hx hb hK hP q0 0 ha rfl (I_in h0 h1 hn) hdg (by rw [show (I i).toNatClampNeg = i.toNat from I_nc h0 (by omega)]; rw [show ((i.toNat : Nat) : Int) = i from Int.toNat_of_nonneg h0]; exact kk)
theorem wr_cald (hx : p.tables.exec = Jvm.exec) (hb : c.code = cc) (hK : KK g s) (hP : KP g ws H) (q0 : Nat) {n : Nat} {f : Int → Int} (ha : ws[q0]? = some (ad, .inl (kC g, n, .inl (fun j => I (f (j : Int)))))) {i : Int} (h0 : 0 ≤ i) (h1 : i < (n : Int)) (hn : n < 2 ^ 31) (hdg : decode cc pc = .ok (.caload, 1)) (kk : W p l e R s m args below meth c H locs cells slots Q (F0 m (pc + 1) ls (.int (I (f i)) :: rest))) : W p l e R s m args below meth c H locs cells slots Q (F0 m pc ls (.int (I i) :: .ref ad :: rest)) :=
  va_cald hx hb hK hP q0 1 ha rfl (I_in h0 h1 hn) hdg (by rw [show (I i).toNatClampNeg = i.toNat from I_nc h0 (by omega)]; rw [show ((i.toNat : Nat) : Int) = i from Int.toNat_of_nonneg h0]; exact kk)
theorem wr_zald (hx : p.tables.exec = Jvm.exec) (hb : c.code = cc) (hK : KK g s) (hP : KP g ws H) (q0 : Nat) {n : Nat} {f : Int → Int} (ha : ws[q0]? = some (ad, .inl (kZ g, n, .inl (fun j => I (f (j : Int)))))) {i : Int} (h0 : 0 ≤ i) (h1 : i < (n : Int)) (hn : n < 2 ^ 31) (hdg : decode cc pc = .ok (.baload, 1)) (kk : W p l e R s m args below meth c H locs cells slots Q (F0 m (pc + 1) ls (.int (I (f i)) :: rest))) : W p l e R s m args below meth c H locs cells slots Q (F0 m pc ls (.int (I i) :: .ref ad :: rest)) :=
  va_zald hx hb hK hP q0 2 ha rfl (I_in h0 h1 hn) hdg (by rw [show (I i).toNatClampNeg = i.toNat from I_nc h0 (by omega)]; rw [show ((i.toNat : Nat) : Int) = i from Int.toNat_of_nonneg h0]; exact kk)
theorem wr_lald (hx : p.tables.exec = Jvm.exec) (hb : c.code = cc) (hK : KK g s) (hP : KP g ws H) (q0 : Nat) {n : Nat} {f : Int → Int64} (ha : ws[q0]? = some (ad, .inl (kJ g, n, .inr (.inl (fun j => f (j : Int)))))) {i : Int} (h0 : 0 ≤ i) (h1 : i < (n : Int)) (hn : n < 2 ^ 31) (hdg : decode cc pc = .ok (.laload, 1)) (kk : W p l e R s m args below meth c H locs cells slots Q (F0 m (pc + 1) ls (.long (f i) :: rest))) : W p l e R s m args below meth c H locs cells slots Q (F0 m pc ls (.int (I i) :: .ref ad :: rest)) :=
  va_lald hx hb hK hP q0 3 ha rfl (I_in h0 h1 hn) hdg (by rw [show (I i).toNatClampNeg = i.toNat from I_nc h0 (by omega)]; rw [show ((i.toNat : Nat) : Int) = i from Int.toNat_of_nonneg h0]; exact kk)
theorem wr_ast (hx : p.tables.exec = Jvm.exec) (hb : c.code = cc) (hK : KK g s) (hP : KP g ws H) (hD : va_D A ws) (hS : va_S A H0 H locs) (q0 : Nat) {n : Nat} {f : Int → Int} (ha : ws[q0]? = some (ad, .inl (kI g, n, .inl (fun j => I (f (j : Int)))))) {i x : Int} (h0 : 0 ≤ i) (h1 : i < (n : Int)) (hn : n < 2 ^ 31) (hw : ws.set q0 (ad, .inl (kI g, n, .inl (fun j => I (st f i x (j : Int))))) = ws') (hdg : decode cc pc = .ok (.iastore, 1)) (kk : ∀ (H1 : Heap) (locs1 : List Loc), KP g ws' H1 → va_D A ws' → va_S A H0 H1 locs1 → W p l e R s m args below meth c H1 locs1 cells slots Q (F0 m (pc + 1) ls rest)) : W p l e R s m args below meth c H locs cells slots Q (F0 m pc ls (.int (I x) :: .int (I i) :: .ref ad :: rest)) :=
  va_iast hx hb hK hP hD hS q0 0 ha rfl (I_in h0 h1 hn) hdg (fun H1 locs1 hP1 hD1 hS1 => by rw [upd_I h0 (by omega), hw] at hP1 hD1; exact kk H1 locs1 hP1 hD1 hS1)
theorem wr_last (hx : p.tables.exec = Jvm.exec) (hb : c.code = cc) (hK : KK g s) (hP : KP g ws H) (hD : va_D A ws) (hS : va_S A H0 H locs) (q0 : Nat) {n : Nat} {f : Int → Int64} (ha : ws[q0]? = some (ad, .inl (kJ g, n, .inr (.inl (fun j => f (j : Int)))))) {i : Int} {x : Int64} (h0 : 0 ≤ i) (h1 : i < (n : Int)) (hn : n < 2 ^ 31) (hw : ws.set q0 (ad, .inl (kJ g, n, .inr (.inl (fun j => st f i x (j : Int))))) = ws') (hdg : decode cc pc = .ok (.lastore, 1)) (kk : ∀ (H1 : Heap) (locs1 : List Loc), KP g ws' H1 → va_D A ws' → va_S A H0 H1 locs1 → W p l e R s m args below meth c H1 locs1 cells slots Q (F0 m (pc + 1) ls rest)) : W p l e R s m args below meth c H locs cells slots Q (F0 m pc ls (.long x :: .int (I i) :: .ref ad :: rest)) :=
  va_last hx hb hK hP hD hS q0 3 ha rfl (I_in h0 h1 hn) hdg (fun H1 locs1 hP1 hD1 hS1 => by rw [updL_I h0 (by omega), hw] at hP1 hD1; exact kk H1 locs1 hP1 hD1 hS1)
theorem nar_char {x : Int} (h0 : 0 ≤ x) (h1 : x ≤ 65535) : vp_nar .char (I x) = I x := by
  rw [I_nat h0]
  unfold vp_nar
  rw [(pk_charN (q := x.toNat) (by omega)).1]
theorem wr_cast (hx : p.tables.exec = Jvm.exec) (hb : c.code = cc) (hK : KK g s) (hP : KP g ws H) (hD : va_D A ws) (hS : va_S A H0 H locs) (q0 : Nat) {n : Nat} {f : Int → Int} (ha : ws[q0]? = some (ad, .inl (kC g, n, .inl (fun j => I (f (j : Int)))))) {i x : Int} (h0 : 0 ≤ i) (h1 : i < (n : Int)) (hn : n < 2 ^ 31) (hx0 : 0 ≤ x) (hx1 : x ≤ 65535) (hw : ws.set q0 (ad, .inl (kC g, n, .inl (fun j => I (st f i x (j : Int))))) = ws') (hdg : decode cc pc = .ok (.castore, 1)) (kk : ∀ (H1 : Heap) (locs1 : List Loc), KP g ws' H1 → va_D A ws' → va_S A H0 H1 locs1 → W p l e R s m args below meth c H1 locs1 cells slots Q (F0 m (pc + 1) ls rest)) : W p l e R s m args below meth c H locs cells slots Q (F0 m pc ls (.int (I x) :: .int (I i) :: .ref ad :: rest)) :=
  va_cast hx hb hK hP hD hS q0 1 ha rfl (I_in h0 h1 hn) hdg (fun H1 locs1 hP1 hD1 hS1 => by rw [nar_char hx0 hx1, upd_I h0 (by omega), hw] at hP1 hD1; exact kk H1 locs1 hP1 hD1 hS1)
theorem nar_z {x : Int} (h0 : 0 ≤ x) (h1 : x ≤ 1) : vp_nar .boolean (I x) = I x := by
  rcases (show x = 0 ∨ x = 1 by omega) with rfl | rfl <;> decide
theorem wr_zast (hx : p.tables.exec = Jvm.exec) (hb : c.code = cc) (hK : KK g s) (hP : KP g ws H) (hD : va_D A ws) (hS : va_S A H0 H locs) (q0 : Nat) {n : Nat} {f : Int → Int} (ha : ws[q0]? = some (ad, .inl (kZ g, n, .inl (fun j => I (f (j : Int)))))) {i x : Int} (h0 : 0 ≤ i) (h1 : i < (n : Int)) (hn : n < 2 ^ 31) (hx0 : 0 ≤ x) (hx1 : x ≤ 1) (hw : ws.set q0 (ad, .inl (kZ g, n, .inl (fun j => I (st f i x (j : Int))))) = ws') (hdg : decode cc pc = .ok (.bastore, 1)) (kk : ∀ (H1 : Heap) (locs1 : List Loc), KP g ws' H1 → va_D A ws' → va_S A H0 H1 locs1 → W p l e R s m args below meth c H1 locs1 cells slots Q (F0 m (pc + 1) ls rest)) : W p l e R s m args below meth c H locs cells slots Q (F0 m pc ls (.int (I x) :: .int (I i) :: .ref ad :: rest)) :=
  va_zast hx hb hK hP hD hS q0 2 ha rfl (I_in h0 h1 hn) hdg (fun H1 locs1 hP1 hD1 hS1 => by rw [nar_z hx0 hx1, upd_I h0 (by omega), hw] at hP1 hD1; exact kk H1 locs1 hP1 hD1 hS1)
end WR
def CW (g : gG) (q : Nat → Nat) (lb : Nat) (v : Nat → Int) (a : Nat → Int → Int) (b : Nat → Int → Int64) : va_W :=
  (q 0, .inr (12, (.ref (q 13) :: .int (I (v 0)) :: .int (I (v 1)) :: .int (I (v 2)) :: .ref (q 14) :: .ref (q 1) :: .ref (q 2) :: .ref (q 3) :: .ref (q 4) :: .ref (q 6) :: .ref (q 7) :: .ref (q 8) :: .ref (q 9) :: .ref (q 10) :: .ref (q 11) :: .ref (q 12) :: []))) ::
  (q 1, .inr (3, (.ref (q 15) :: .ref (q 16) :: .ref (q 17) :: .ref (q 18) :: .ref (q 19) :: .int (I (v 3)) :: .ref (q 20) :: .ref (q 21) :: .ref (q 22) :: .ref (q 23) :: .ref (q 24) :: .int (I (v 4)) :: .int (I (v 5)) :: .ref (q 25) :: .ref (q 26) :: .ref (q 27) :: .ref (q 28) :: .ref (q 29) :: .int (I (v 6)) :: .int (I (v 7)) :: .ref (q 30) :: []))) ::
  (q 2, .inr (9, (.ref (q 1) :: .ref (q 31) :: .ref (q 32) :: .ref (q 33) :: .int (I (v 8)) :: .ref (q 34) :: .ref (q 35) :: .int (I (v 9)) :: .ref (q 36) :: .ref (q 37) :: .int (I (v 10)) :: .ref (q 38) :: .ref (q 39) :: .int (I (v 11)) :: .ref (q 40) :: .int (I (v 12)) :: []))) ::
  (q 3, .inr (0, (.ref (q 1) :: .ref (q 2) :: .ref (q 41) :: .ref (q 42) :: .ref (q 43) :: .int (I (v 13)) :: .ref (q 44) :: .ref (q 45) :: .ref (q 46) :: .int (I (v 14)) :: .ref (q 47) :: .ref (q 48) :: .ref (q 49) :: .ref (q 50) :: .ref (q 51) :: .int (I (v 15)) :: .int (I (v 16)) :: .ref (q 52) :: .ref (q 53) :: .ref (q 54) :: []))) ::
  (q 4, .inr (6, (.ref (q 1) :: .ref (q 3) :: .ref (q 2) :: .ref (q 55) :: .int (I (v 17)) :: .int (I (v 18)) :: .ref (q 56) :: .ref (q 57) :: .ref (q 58) :: .ref (q 59) :: .int (I (v 19)) :: .ref (q 60) :: .ref (q 61) :: .ref (q 62) :: .int (I (v 20)) :: .ref (q 63) :: .ref (q 64) :: []))) ::
  (q 5, .inr (10, (.ref (q 1) :: .ref (q 3) :: .ref (q 2) :: .ref (q 4) :: .ref (q 65) :: .ref (q 66) :: .int (I (v 21)) :: .ref (q 67) :: .int (I (v 22)) :: .int (I (v 23)) :: .int (I (v 24)) :: .int (I (v 25)) :: .int (I (v 26)) :: .int (I (v 27)) :: .int (I (v 28)) :: .int (I (v 29)) :: .ref (q 68) :: .int (I (v 30)) :: .ref (q 69) :: .int (I (v 31)) :: .int (I (v 32)) :: []))) ::
  (q 6, .inr (7, (.ref (q 1) :: .ref (q 3) :: .ref (q 2) :: .ref (q 5) :: .ref (q 70) :: vsrc (v 66) (q 13) :: .int (I (v 33)) :: .int (I (v 34)) :: .int (I (v 35)) :: .int (I (v 36)) :: .int (I (v 37)) :: .int (I (v 38)) :: .int (I (v 39)) :: []))) ::
  (q 7, .inr (4, (.ref (q 1) :: .ref (q 3) :: .ref (q 71) :: .ref (q 72) :: .ref (q 73) :: .ref (q 74) :: .ref (q 75) :: .ref (q 76) :: .ref (q 77) :: .int (I (v 40)) :: .ref (q 78) :: .int (I (v 41)) :: .ref (q 79) :: .ref (q 80) :: .int (I (v 42)) :: .ref (q 81) :: .int (I (v 43)) :: .ref (q 82) :: .int (I (v 44)) :: []))) ::
  (q 8, .inr (8, (.ref (q 1) :: .ref (q 3) :: .ref (q 83) :: .ref (q 84) :: .ref (q 85) :: .ref (q 86) :: .ref (q 87) :: .ref (q 88) :: .int (I (v 45)) :: .ref (q 89) :: .ref (q 90) :: .ref (q 91) :: .ref (q 92) :: .int (I (v 46)) :: .int (I (v 47)) :: .int (I (v 48)) :: .int (I (v 49)) :: []))) ::
  (q 9, .inr (1, (.ref (q 1) :: .ref (q 8) :: .ref (q 93) :: .ref (q 94) :: .int (I (v 50)) :: .int (I (v 51)) :: .int (I (v 52)) :: .ref (q 95) :: .ref (q 96) :: .ref (q 97) :: .ref (q 98) :: .int (I (v 53)) :: .ref (q 99) :: .ref (q 100) :: .ref (q 101) :: .ref (q 102) :: .ref (q 103) :: .ref (q 104) :: []))) ::
  (q 10, .inr (11, (.ref (q 1) :: .ref (q 3) :: .ref (q 9) :: .ref (q 105) :: .ref (q 106) :: .ref (q 107) :: .int (I (v 54)) :: .ref (q 108) :: .int (I (v 55)) :: .ref (q 109) :: .ref (q 110) :: .ref (q 111) :: .ref (q 112) :: .ref (q 113) :: .int (I (v 56)) :: []))) ::
  (q 11, .inr (2, (.ref (q 1) :: .ref (q 3) :: .ref (q 8) :: .ref (q 9) :: .ref (q 10) :: .ref (q 4) :: .int (I (v 57)) :: .ref (q 114) :: .ref (q 115) :: .ref (q 116) :: .ref (q 117) :: .ref (q 118) :: .int (I (v 58)) :: .int (I (v 59)) :: .ref (q 119) :: .ref (q 120) :: .ref (q 121) :: .int (I (v 60)) :: .ref (q 122) :: .int (I (v 61)) :: .int (I (v 62)) :: []))) ::
  (q 12, .inr (5, (.ref (q 1) :: .ref (if v 67 = 0 then q 123 else q 124) :: .int (I (v 63)) :: .int (I (v 64)) :: .ref (if v 67 = 0 then q 124 else q 123) :: .int (I (v 65)) :: []))) ::
  (q 13, .inl (kC g, 60000, .inl (fun j => I (a 0 (j : Int))))) ::
  (q 14, .inl (kI g, 60, .inl (fun j => I (a 1 (j : Int))))) ::
  (q 15, .inl (kC g, 30000, .inl (fun j => I (a 2 (j : Int))))) ::
  (q 16, .inl (kI g, 2501, .inl (fun j => I (a 3 (j : Int))))) ::
  (q 17, .inl (kI g, 2500, .inl (fun j => I (a 4 (j : Int))))) ::
  (q 18, .inl (kI g, 2500, .inl (fun j => I (a 5 (j : Int))))) ::
  (q 19, .inl (kI g, 4096, .inl (fun j => I (a 6 (j : Int))))) ::
  (q 20, .inl (kI g, 1000, .inl (fun j => I (a 7 (j : Int))))) ::
  (q 21, .inl (kZ g, 1000, .inl (fun j => I (a 8 (j : Int))))) ::
  (q 22, .inl (kI g, 1000, .inl (fun j => I (a 9 (j : Int))))) ::
  (q 23, .inl (kI g, 1000, .inl (fun j => I (a 10 (j : Int))))) ::
  (q 24, .inl (kI g, 100, .inl (fun j => I (a 11 (j : Int))))) ::
  (q 25, .inl (kI g, 1500, .inl (fun j => I (a 12 (j : Int))))) ::
  (q 26, .inl (kI g, 1500, .inl (fun j => I (a 13 (j : Int))))) ::
  (q 27, .inl (kI g, 1501, .inl (fun j => I (a 14 (j : Int))))) ::
  (q 28, .inl (kI g, 30000, .inl (fun j => I (a 15 (j : Int))))) ::
  (q 29, .inl (kI g, 30000, .inl (fun j => I (a 16 (j : Int))))) ::
  (q 30, .inl (kI g, 5, .inl (fun j => I (a 17 (j : Int))))) ::
  (q 31, .inl (kZ g, 1000, .inl (fun j => I (a 18 (j : Int))))) ::
  (q 32, .inl (kI g, 1000, .inl (fun j => I (a 19 (j : Int))))) ::
  (q 33, .inl (kI g, 1000, .inl (fun j => I (a 20 (j : Int))))) ::
  (q 34, .inl (kZ g, 1500, .inl (fun j => I (a 21 (j : Int))))) ::
  (q 35, .inl (kI g, 1500, .inl (fun j => I (a 22 (j : Int))))) ::
  (q 36, .inl (kI g, 1000, .inl (fun j => I (a 23 (j : Int))))) ::
  (q 37, .inl (kI g, 1000, .inl (fun j => I (a 24 (j : Int))))) ::
  (q 38, .inl (kJ g, 16000, .inr (.inl (fun j => b 0 (j : Int))))) ::
  (q 39, .inl (kI g, 153, .inl (fun j => I (a 25 (j : Int))))) ::
  (q 40, .inl (kI g, 1000, .inl (fun j => I (a 26 (j : Int))))) ::
  (q 41, .inl (kI g, 1500, .inl (fun j => I (a 27 (j : Int))))) ::
  (q 42, .inl (kI g, 1500, .inl (fun j => I (a 28 (j : Int))))) ::
  (q 43, .inl (kI g, 90000, .inl (fun j => I (a 29 (j : Int))))) ::
  (q 44, .inl (kI g, 1500, .inl (fun j => I (a 30 (j : Int))))) ::
  (q 45, .inl (kI g, 1500, .inl (fun j => I (a 31 (j : Int))))) ::
  (q 46, .inl (kI g, 20000, .inl (fun j => I (a 32 (j : Int))))) ::
  (q 47, .inl (kI g, 1500, .inl (fun j => I (a 33 (j : Int))))) ::
  (q 48, .inl (kI g, 1500, .inl (fun j => I (a 34 (j : Int))))) ::
  (q 49, .inl (kI g, 20000, .inl (fun j => I (a 35 (j : Int))))) ::
  (q 50, .inl (kI g, 20001, .inl (fun j => I (a 36 (j : Int))))) ::
  (q 51, .inl (kI g, 20000, .inl (fun j => I (a 37 (j : Int))))) ::
  (q 52, .inl (kJ g, 20000, .inr (.inl (fun j => b 1 (j : Int))))) ::
  (q 53, .inl (kJ g, 36000, .inr (.inl (fun j => b 2 (j : Int))))) ::
  (q 54, .inl (kI g, 4, .inl (fun j => I (a 38 (j : Int))))) ::
  (q 55, .inl (kI g, 42000, .inl (fun j => I (a 39 (j : Int))))) ::
  (q 56, .inl (kI g, 20000, .inl (fun j => I (a 40 (j : Int))))) ::
  (q 57, .inl (kI g, 20000, .inl (fun j => I (a 41 (j : Int))))) ::
  (q 58, .inl (kI g, 20000, .inl (fun j => I (a 42 (j : Int))))) ::
  (q 59, .inl (kI g, 1000, .inl (fun j => I (a 43 (j : Int))))) ::
  (q 60, .inl (kI g, 1000, .inl (fun j => I (a 44 (j : Int))))) ::
  (q 61, .inl (kI g, 1000, .inl (fun j => I (a 45 (j : Int))))) ::
  (q 62, .inl (kI g, 1000, .inl (fun j => I (a 46 (j : Int))))) ::
  (q 63, .inl (kI g, 1000, .inl (fun j => I (a 47 (j : Int))))) ::
  (q 64, .inl (kI g, 1000, .inl (fun j => I (a 48 (j : Int))))) ::
  (q 65, .inl (kI g, 20000, .inl (fun j => I (a 49 (j : Int))))) ::
  (q 66, .inl (kI g, 20000, .inl (fun j => I (a 50 (j : Int))))) ::
  (q 67, .inl (kI g, 300, .inl (fun j => I (a 51 (j : Int))))) ::
  (q 68, .inl (kI g, 200, .inl (fun j => I (a 52 (j : Int))))) ::
  (q 69, .inl (kI g, 300, .inl (fun j => I (a 53 (j : Int))))) ::
  (q 70, .inl (kI g, 1000, .inl (fun j => I (a 54 (j : Int))))) ::
  (q 71, .inl (kI g, 20000, .inl (fun j => I (a 55 (j : Int))))) ::
  (q 72, .inl (kI g, 32768, .inl (fun j => I (a 56 (j : Int))))) ::
  (q 73, .inl (kI g, 20000, .inl (fun j => I (a 57 (j : Int))))) ::
  (q 74, .inl (kI g, 20000, .inl (fun j => I (a 58 (j : Int))))) ::
  (q 75, .inl (kI g, 20000, .inl (fun j => I (a 59 (j : Int))))) ::
  (q 76, .inl (kI g, 1500, .inl (fun j => I (a 60 (j : Int))))) ::
  (q 77, .inl (kI g, 1500, .inl (fun j => I (a 61 (j : Int))))) ::
  (q 78, .inl (kI g, 20001, .inl (fun j => I (a 62 (j : Int))))) ::
  (q 79, .inl (kI g, 20000, .inl (fun j => I (a 63 (j : Int))))) ::
  (q 80, .inl (kI g, 20000, .inl (fun j => I (a 64 (j : Int))))) ::
  (q 81, .inl (kI g, 4000, .inl (fun j => I (a 65 (j : Int))))) ::
  (q 82, .inl (kI g, 20000, .inl (fun j => I (a 66 (j : Int))))) ::
  (q 83, .inl (kI g, 30001, .inl (fun j => I (a 67 (j : Int))))) ::
  (q 84, .inl (kI g, 30001, .inl (fun j => I (a 68 (j : Int))))) ::
  (q 85, .inl (kI g, 30001, .inl (fun j => I (a 69 (j : Int))))) ::
  (q 86, .inl (kI g, 30001, .inl (fun j => I (a 70 (j : Int))))) ::
  (q 87, .inl (kI g, 30001, .inl (fun j => I (a 71 (j : Int))))) ::
  (q 88, .inl (kI g, 1500, .inl (fun j => I (a 72 (j : Int))))) ::
  (q 89, .inl (kI g, 1000, .inl (fun j => I (a 73 (j : Int))))) ::
  (q 90, .inl (kI g, 100, .inl (fun j => I (a 74 (j : Int))))) ::
  (q 91, .inl (kI g, 1500, .inl (fun j => I (a 75 (j : Int))))) ::
  (q 92, .inl (kI g, 1500, .inl (fun j => I (a 76 (j : Int))))) ::
  (q 93, .inl (kI g, 60, .inl (fun j => I (a 77 (j : Int))))) ::
  (q 94, .inl (kI g, 60, .inl (fun j => I (a 78 (j : Int))))) ::
  (q 95, .inl (kJ g, 1000, .inr (.inl (fun j => b 3 (j : Int))))) ::
  (q 96, .inl (kJ g, 6000, .inr (.inl (fun j => b 4 (j : Int))))) ::
  (q 97, .inl (kJ g, 6000, .inr (.inl (fun j => b 5 (j : Int))))) ::
  (q 98, .inl (kI g, 177000, .inl (fun j => I (a 79 (j : Int))))) ::
  (q 99, .inl (kI g, 61, .inl (fun j => I (a 80 (j : Int))))) ::
  (q 100, .inl (kJ g, 61, .inr (.inl (fun j => b 6 (j : Int))))) ::
  (q 101, .inl (kJ g, 61, .inr (.inl (fun j => b 7 (j : Int))))) ::
  (q 102, .inl (kI g, 100, .inl (fun j => I (a 81 (j : Int))))) ::
  (q 103, .inl (kI g, 100, .inl (fun j => I (a 82 (j : Int))))) ::
  (q 104, .inl (kI g, 100, .inl (fun j => I (a 83 (j : Int))))) ::
  (q 105, .inl (kI g, 12000, .inl (fun j => I (a 84 (j : Int))))) ::
  (q 106, .inl (kI g, 12000, .inl (fun j => I (a 85 (j : Int))))) ::
  (q 107, .inl (kI g, 12000, .inl (fun j => I (a 86 (j : Int))))) ::
  (q 108, .inl (kI g, 12000, .inl (fun j => I (a 87 (j : Int))))) ::
  (q 109, .inl (kI g, 120, .inl (fun j => I (a 88 (j : Int))))) ::
  (q 110, .inl (kJ g, 61, .inr (.inl (fun j => b 8 (j : Int))))) ::
  (q 111, .inl (kI g, 1000, .inl (fun j => I (a 89 (j : Int))))) ::
  (q 112, .inl (kI g, 1000, .inl (fun j => I (a 90 (j : Int))))) ::
  (q 113, .inl (kI g, 1000, .inl (fun j => I (a 91 (j : Int))))) ::
  (q 114, .inl (kI g, 1500, .inl (fun j => I (a 92 (j : Int))))) ::
  (q 115, .inl (kI g, 1500, .inl (fun j => I (a 93 (j : Int))))) ::
  (q 116, .inl (kI g, 1500, .inl (fun j => I (a 94 (j : Int))))) ::
  (q 117, .inl (kI g, 1500, .inl (fun j => I (a 95 (j : Int))))) ::
  (q 118, .inl (kZ g, 1500, .inl (fun j => I (a 96 (j : Int))))) ::
  (q 119, .inl (kI g, lb, .inl (fun j => I (a 97 (j : Int))))) ::
  (q 120, .inl (kI g, 1500, .inl (fun j => I (a 98 (j : Int))))) ::
  (q 121, .inl (kI g, 1500, .inl (fun j => I (a 99 (j : Int))))) ::
  (q 122, .inl (kI g, 1000, .inl (fun j => I (a 100 (j : Int))))) ::
  (q 123, .inl (kC g, 24000, .inl (fun j => I (a 101 (j : Int))))) ::
  (q 124, .inl (kC g, 24000, .inl (fun j => I (a 102 (j : Int))))) :: []
def MW (g : gG) (q : Nat → Nat) (lb : Nat) (v : Nat → Int) (a : Nat → Int → Int) (b : Nat → Int → Int64) : va_W :=
  (q 0, .inr (13, (.ref (q 1) :: .int (I (v 0)) :: .int (I (v 1)) :: .ref (q 2) :: .int (I (v 2)) :: .ref (q 3) :: .ref (q 4) :: .int (I (v 3)) :: .ref (q 5) :: .ref (q 6) :: .ref (q 7) :: .ref (q 8) :: .ref (q 9) :: .ref (q 10) :: .ref (q 11) :: .ref (q 12) :: .ref (q 13) :: .int (I (v 4)) :: .int (I (v 5)) :: .ref (q 14) :: .ref (q 15) :: .ref (q 16) :: .ref (q 17) :: .ref (q 18) :: .int (I (v 6)) :: .ref (q 19) :: .ref (q 20) :: .ref (q 21) :: .int (I (v 7)) :: .ref (q 22) :: .ref (q 23) :: .ref (q 24) :: .ref (q 25) :: .int (I (v 8)) :: .ref (q 26) :: .ref (q 27) :: .ref (q 28) :: .ref (q 29) :: .ref (q 30) :: .int (I (v 9)) :: .ref (q 31) :: .int (I (v 10)) :: .int (I (v 11)) :: .ref (q 32) :: .int (I (v 12)) :: .ref (q 33) :: .int (I (v 13)) :: .ref (q 34) :: .ref (q 35) :: .int (I (v 14)) :: .ref (q 36) :: .int (I (v 15)) :: .ref (q 37) :: .ref (q 38) :: .ref (q 39) :: .int (I (v 16)) :: .int (I (v 17)) :: .int (I (v 18)) :: .int (I (v 19)) :: .int (I (v 20)) :: .int (I (v 21)) :: .ref (q 40) :: .int (I (v 22)) :: .ref (q 41) :: .int (I (v 23)) :: .int (I (v 24)) :: .ref (q 42) :: .int (I (v 25)) :: .int (I (v 26)) :: .int (I (v 27)) :: .int (I (v 28)) :: .int (I (v 29)) :: .ref (q 43) :: .ref (q 44) :: .ref (q 45) :: .int (I (v 30)) :: .ref (q 46) :: .int (I (v 31)) :: .ref (q 47) :: .ref (q 48) :: .ref (q 49) :: .int (I (v 32)) :: .ref (q 50) :: .int (I (v 33)) :: .ref (q 51) :: .ref (q 52) :: .ref (q 53) :: .int (I (v 34)) :: .int (I (v 35)) :: .ref (q 54) :: .ref (q 55) :: .ref (q 56) :: .ref (q 57) :: .ref (q 58) :: .ref (q 59) :: .ref (q 60) :: .ref (q 61) :: .int (I (v 36)) :: .int (I (v 37)) :: .int (I (v 38)) :: .ref (q 62) :: .ref (q 63) :: .int (I (v 39)) :: .ref (q 64) :: .int (I (v 40)) :: .ref (q 65) :: .ref (q 66) :: .ref (q 67) :: .ref (q 68) :: .int (I (v 41)) :: .ref (q 69) :: .ref (q 70) :: .int (I (v 42)) :: .ref (q 71) :: .ref (q 72) :: .int (I (v 43)) :: .ref (q 73) :: .ref (q 74) :: .int (I (v 44)) :: .ref (q 75) :: .ref (q 76) :: .int (I (v 45)) :: .ref (q 77) :: .ref (q 78) :: .ref (q 79) :: .int (I (v 46)) :: .ref (q 80) :: .ref (q 81) :: .ref (q 82) :: .ref (q 83) :: .ref (q 84) :: .ref (q 85) :: .ref (q 86) :: .ref (q 87) :: .ref (q 88) :: .ref (q 89) :: .ref (q 90) :: .ref (q 91) :: .int (I (v 47)) :: .ref (q 92) :: .int (I (v 48)) :: .int (I (v 49)) :: .int (I (v 50)) :: .ref (q 93) :: .ref (q 94) :: .ref (q 95) :: .ref (q 96) :: .ref (q 97) :: .ref (q 98) :: .ref (q 99) :: .int (I (v 51)) :: .int (I (v 52)) :: .ref (q 100) :: .ref (q 101) :: .ref (q 102) :: .ref (q 103) :: .ref (q 104) :: .ref (q 105) :: .ref (q 106) :: .ref (q 107) :: .ref (q 108) :: .ref (q 109) :: .ref (q 110) :: .int (I (v 53)) :: .ref (q 111) :: .int (I (v 54)) :: .ref (q 112) :: .ref (q 113) :: .ref (q 114) :: .ref (q 115) :: []))) ::
  (q 1, .inl (kI g, 60000, .inl (fun j => I (a 0 (j : Int))))) ::
  (q 2, .inl (kI g, 30100, .inl (fun j => I (a 1 (j : Int))))) ::
  (q 3, .inl (kI g, 1001, .inl (fun j => I (a 2 (j : Int))))) ::
  (q 4, .inl (kI g, 1001, .inl (fun j => I (a 3 (j : Int))))) ::
  (q 5, .inl (kI g, 1501, .inl (fun j => I (a 4 (j : Int))))) ::
  (q 6, .inl (kI g, 1501, .inl (fun j => I (a 5 (j : Int))))) ::
  (q 7, .inl (kI g, 4096, .inl (fun j => I (a 6 (j : Int))))) ::
  (q 8, .inl (kI g, 4096, .inl (fun j => I (a 7 (j : Int))))) ::
  (q 9, .inl (kZ g, 1001, .inl (fun j => I (a 8 (j : Int))))) ::
  (q 10, .inl (kZ g, 1001, .inl (fun j => I (a 9 (j : Int))))) ::
  (q 11, .inl (kI g, 1001, .inl (fun j => I (a 10 (j : Int))))) ::
  (q 12, .inl (kI g, 1001, .inl (fun j => I (a 11 (j : Int))))) ::
  (q 13, .inl (kZ g, 1001, .inl (fun j => I (a 12 (j : Int))))) ::
  (q 14, .inl (kI g, 1501, .inl (fun j => I (a 13 (j : Int))))) ::
  (q 15, .inl (kI g, 1501, .inl (fun j => I (a 14 (j : Int))))) ::
  (q 16, .inl (kI g, 1501, .inl (fun j => I (a 15 (j : Int))))) ::
  (q 17, .inl (kI g, 30400, .inl (fun j => I (a 16 (j : Int))))) ::
  (q 18, .inl (kI g, 30400, .inl (fun j => I (a 17 (j : Int))))) ::
  (q 19, .inl (kI g, 1501, .inl (fun j => I (a 18 (j : Int))))) ::
  (q 20, .inl (kI g, 1501, .inl (fun j => I (a 19 (j : Int))))) ::
  (q 21, .inl (kI g, 90100, .inl (fun j => I (a 20 (j : Int))))) ::
  (q 22, .inl (kI g, 1501, .inl (fun j => I (a 21 (j : Int))))) ::
  (q 23, .inl (kI g, 1501, .inl (fun j => I (a 22 (j : Int))))) ::
  (q 24, .inl (kI g, 20000, .inl (fun j => I (a 23 (j : Int))))) ::
  (q 25, .inl (kI g, 20000, .inl (fun j => I (a 24 (j : Int))))) ::
  (q 26, .inl (kI g, 1501, .inl (fun j => I (a 25 (j : Int))))) ::
  (q 27, .inl (kI g, 1501, .inl (fun j => I (a 26 (j : Int))))) ::
  (q 28, .inl (kI g, 20001, .inl (fun j => I (a 27 (j : Int))))) ::
  (q 29, .inl (kZ g, 20001, .inl (fun j => I (a 28 (j : Int))))) ::
  (q 30, .inl (kI g, 20001, .inl (fun j => I (a 29 (j : Int))))) ::
  (q 31, .inl (kJ g, 36024, .inr (.inl (fun j => b 0 (j : Int))))) ::
  (q 32, .inl (kI g, 1001, .inl (fun j => I (a 30 (j : Int))))) ::
  (q 33, .inl (kI g, 1501, .inl (fun j => I (a 31 (j : Int))))) ::
  (q 34, .inl (kI g, 1001, .inl (fun j => I (a 32 (j : Int))))) ::
  (q 35, .inl (kI g, 1001, .inl (fun j => I (a 33 (j : Int))))) ::
  (q 36, .inl (kJ g, 16016, .inr (.inl (fun j => b 1 (j : Int))))) ::
  (q 37, .inl (kI g, 51, .inl (fun j => I (a 34 (j : Int))))) ::
  (q 38, .inl (kI g, 51, .inl (fun j => I (a 35 (j : Int))))) ::
  (q 39, .inl (kI g, 51, .inl (fun j => I (a 36 (j : Int))))) ::
  (q 40, .inl (kI g, 1001, .inl (fun j => I (a 37 (j : Int))))) ::
  (q 41, .inl (kZ g, 1001, .inl (fun j => I (a 38 (j : Int))))) ::
  (q 42, .inl (kI g, 300, .inl (fun j => I (a 39 (j : Int))))) ::
  (q 43, .inl (kI g, 202, .inl (fun j => I (a 40 (j : Int))))) ::
  (q 44, .inl (kI g, 202, .inl (fun j => I (a 41 (j : Int))))) ::
  (q 45, .inl (kI g, 202, .inl (fun j => I (a 42 (j : Int))))) ::
  (q 46, .inl (kI g, 42000, .inl (fun j => I (a 43 (j : Int))))) ::
  (q 47, .inl (kI g, 300, .inl (fun j => I (a 44 (j : Int))))) ::
  (q 48, .inl (kI g, 300, .inl (fun j => I (a 45 (j : Int))))) ::
  (q 49, .inl (kI g, 300, .inl (fun j => I (a 46 (j : Int))))) ::
  (q 50, .inl (kI g, 42000, .inl (fun j => I (a 47 (j : Int))))) ::
  (q 51, .inl (kI g, 1001, .inl (fun j => I (a 48 (j : Int))))) ::
  (q 52, .inl (kI g, 1001, .inl (fun j => I (a 49 (j : Int))))) ::
  (q 53, .inl (kI g, 1002, .inl (fun j => I (a 50 (j : Int))))) ::
  (q 54, .inl (kZ g, 1001, .inl (fun j => I (a 51 (j : Int))))) ::
  (q 55, .inl (kZ g, 1001, .inl (fun j => I (a 52 (j : Int))))) ::
  (q 56, .inl (kZ g, 1001, .inl (fun j => I (a 53 (j : Int))))) ::
  (q 57, .inl (kI g, 1001, .inl (fun j => I (a 54 (j : Int))))) ::
  (q 58, .inl (kI g, 1001, .inl (fun j => I (a 55 (j : Int))))) ::
  (q 59, .inl (kI g, 20001, .inl (fun j => I (a 56 (j : Int))))) ::
  (q 60, .inl (kI g, 20001, .inl (fun j => I (a 57 (j : Int))))) ::
  (q 61, .inl (kI g, 120000, .inl (fun j => I (a 58 (j : Int))))) ::
  (q 62, .inl (kJ g, 20001, .inr (.inl (fun j => b 2 (j : Int))))) ::
  (q 63, .inl (kI g, 24002, .inl (fun j => I (a 59 (j : Int))))) ::
  (q 64, .inl (kI g, 24000, .inl (fun j => I (a 60 (j : Int))))) ::
  (q 65, .inl (kI g, 20001, .inl (fun j => I (a 61 (j : Int))))) ::
  (q 66, .inl (kI g, 20001, .inl (fun j => I (a 62 (j : Int))))) ::
  (q 67, .inl (kI g, 20001, .inl (fun j => I (a 63 (j : Int))))) ::
  (q 68, .inl (kI g, 20001, .inl (fun j => I (a 64 (j : Int))))) ::
  (q 69, .inl (kI g, 40002, .inl (fun j => I (a 65 (j : Int))))) ::
  (q 70, .inl (kI g, 40002, .inl (fun j => I (a 66 (j : Int))))) ::
  (q 71, .inl (kI g, 1501, .inl (fun j => I (a 67 (j : Int))))) ::
  (q 72, .inl (kI g, 1501, .inl (fun j => I (a 68 (j : Int))))) ::
  (q 73, .inl (kI g, 65536, .inl (fun j => I (a 69 (j : Int))))) ::
  (q 74, .inl (kI g, 40002, .inl (fun j => I (a 70 (j : Int))))) ::
  (q 75, .inl (kI g, 1001, .inl (fun j => I (a 71 (j : Int))))) ::
  (q 76, .inl (kI g, 64, .inl (fun j => I (a 72 (j : Int))))) ::
  (q 77, .inl (kI g, 64, .inl (fun j => I (a 73 (j : Int))))) ::
  (q 78, .inl (kI g, 64, .inl (fun j => I (a 74 (j : Int))))) ::
  (q 79, .inl (kI g, 372100, .inl (fun j => I (a 75 (j : Int))))) ::
  (q 80, .inl (kI g, 372100, .inl (fun j => I (a 76 (j : Int))))) ::
  (q 81, .inl (kJ g, 6200, .inr (.inl (fun j => b 3 (j : Int))))) ::
  (q 82, .inl (kJ g, 6200, .inr (.inl (fun j => b 4 (j : Int))))) ::
  (q 83, .inl (kI g, 30002, .inl (fun j => I (a 77 (j : Int))))) ::
  (q 84, .inl (kI g, 30002, .inl (fun j => I (a 78 (j : Int))))) ::
  (q 85, .inl (kI g, 30002, .inl (fun j => I (a 79 (j : Int))))) ::
  (q 86, .inl (kI g, 30002, .inl (fun j => I (a 80 (j : Int))))) ::
  (q 87, .inl (kI g, 30002, .inl (fun j => I (a 81 (j : Int))))) ::
  (q 88, .inl (kI g, 30002, .inl (fun j => I (a 82 (j : Int))))) ::
  (q 89, .inl (kI g, 30002, .inl (fun j => I (a 83 (j : Int))))) ::
  (q 90, .inl (kJ g, 30002, .inr (.inl (fun j => b 5 (j : Int))))) ::
  (q 91, .inl (kJ g, 30002, .inr (.inl (fun j => b 6 (j : Int))))) ::
  (q 92, .inl (kI g, 1501, .inl (fun j => I (a 84 (j : Int))))) ::
  (q 93, .inl (kI g, 3800, .inl (fun j => I (a 85 (j : Int))))) ::
  (q 94, .inl (kI g, 60000, .inl (fun j => I (a 86 (j : Int))))) ::
  (q 95, .inl (kI g, 60000, .inl (fun j => I (a 87 (j : Int))))) ::
  (q 96, .inl (kI g, 60000, .inl (fun j => I (a 88 (j : Int))))) ::
  (q 97, .inl (kI g, 60000, .inl (fun j => I (a 89 (j : Int))))) ::
  (q 98, .inl (kI g, 60000, .inl (fun j => I (a 90 (j : Int))))) ::
  (q 99, .inl (kI g, 120000, .inl (fun j => I (a 91 (j : Int))))) ::
  (q 100, .inl (kI g, 101, .inl (fun j => I (a 92 (j : Int))))) ::
  (q 101, .inl (kI g, 101, .inl (fun j => I (a 93 (j : Int))))) ::
  (q 102, .inl (kI g, 1501, .inl (fun j => I (a 94 (j : Int))))) ::
  (q 103, .inl (kJ g, 36024, .inr (.inl (fun j => b 7 (j : Int))))) ::
  (q 104, .inl (kI g, 1501, .inl (fun j => I (a 95 (j : Int))))) ::
  (q 105, .inl (kZ g, 1501, .inl (fun j => I (a 96 (j : Int))))) ::
  (q 106, .inl (kI g, 1501, .inl (fun j => I (a 97 (j : Int))))) ::
  (q 107, .inl (kZ g, 1501, .inl (fun j => I (a 98 (j : Int))))) ::
  (q 108, .inl (kI g, 1501, .inl (fun j => I (a 99 (j : Int))))) ::
  (q 109, .inl (kI g, 1501, .inl (fun j => I (a 100 (j : Int))))) ::
  (q 110, .inl (kI g, 460000, .inl (fun j => I (a 101 (j : Int))))) ::
  (q 111, .inl (kI g, 1300, .inl (fun j => I (a 102 (j : Int))))) ::
  (q 112, .inl (kI g, 64, .inl (fun j => I (a 103 (j : Int))))) ::
  (q 113, .inl (kI g, 1001, .inl (fun j => I (a 104 (j : Int))))) ::
  (q 114, .inl (kI g, 1001, .inl (fun j => I (a 105 (j : Int))))) ::
  (q 115, .inl (kI g, 40002, .inl (fun j => I (a 106 (j : Int))))) :: []
def CLo : Nat → Int := fun i => match i with
  | 0 => 0
  | 1 => 0
  | 2 => (-1)
  | 3 => 0
  | 4 => 0
  | 5 => 0
  | 6 => 0
  | 7 => 0
  | 8 => 0
  | 9 => 0
  | 10 => 0
  | 11 => 0
  | 12 => (-2147483648)
  | 13 => 0
  | 14 => 0
  | 15 => 0
  | 16 => 0
  | 17 => 0
  | 18 => 0
  | 19 => 0
  | 20 => (-2147483648)
  | 21 => 0
  | 22 => 0
  | 23 => 0
  | 24 => 0
  | 25 => 0
  | 26 => 0
  | 27 => 0
  | 28 => 0
  | 29 => 0
  | 30 => 0
  | 31 => (-2147483648)
  | 32 => 0
  | 33 => 0
  | 34 => 0
  | 35 => 0
  | 36 => 0
  | 37 => 0
  | 38 => (-1)
  | 39 => (-1)
  | 40 => 0
  | 41 => 0
  | 42 => 0
  | 43 => 0
  | 44 => 0
  | 45 => 1
  | 46 => 0
  | 47 => 0
  | 48 => (-1)
  | 49 => (-1)
  | 50 => 0
  | 51 => 0
  | 52 => (-1)
  | 53 => 0
  | 54 => 0
  | 55 => 0
  | 56 => (-2147483648)
  | 57 => 0
  | 58 => (-2147483648)
  | 59 => 0
  | 60 => 0
  | 61 => 0
  | 62 => 0
  | 63 => 0
  | 64 => 0
  | 65 => 0
  | 66 => 0
  | 67 => 0
  | 200 => 16384
  | _ => 0
def CHi : Nat → Int := fun i => match i with
  | 0 => 60000
  | 1 => 1
  | 2 => 60000
  | 3 => 2500
  | 4 => 100
  | 5 => 1000
  | 6 => 30000
  | 7 => 1500
  | 8 => 1000
  | 9 => 1500
  | 10 => 1000
  | 11 => 50
  | 12 => 2147483647
  | 13 => 90000
  | 14 => 20000
  | 15 => 20000
  | 16 => 20000
  | 17 => 42000
  | 18 => 42000
  | 19 => 1000
  | 20 => 2147483647
  | 21 => 20000
  | 22 => 300
  | 23 => 300
  | 24 => 1499
  | 25 => 3
  | 26 => 5000010
  | 27 => 1
  | 28 => 1
  | 29 => 60000
  | 30 => 200
  | 31 => 2147483647
  | 32 => 20000
  | 33 => 60000
  | 34 => 1
  | 35 => 7
  | 36 => 1001
  | 37 => 4
  | 38 => 999
  | 39 => 1499
  | 40 => 1500
  | 41 => 20001
  | 42 => 20000
  | 43 => 4000
  | 44 => 20000
  | 45 => 30001
  | 46 => 1500
  | 47 => 1500
  | 48 => 999
  | 49 => 999
  | 50 => 59
  | 51 => 1500
  | 52 => 99
  | 53 => 58
  | 54 => 12000
  | 55 => 12000
  | 56 => 2147483647
  | 57 => 1500
  | 58 => 2147483647
  | 59 => 1500
  | 60 => 1048576
  | 61 => 12000
  | 62 => 12000
  | 63 => 24000
  | 64 => 1
  | 65 => 24000
  | 66 => 1
  | 67 => 1
  | 200 => 1048576
  | _ => 0
def CLa : Nat → Int → Int := fun k j => match k with
  | 0 => 0
  | 1 => 0
  | 2 => 0
  | 3 => 0
  | 4 => (-1000)
  | 5 => 0
  | 6 => 0
  | 7 => 0
  | 8 => 0
  | 9 => (-1)
  | 10 => (-1)
  | 11 => 0
  | 12 => 0
  | 13 => 0
  | 14 => 0
  | 15 => 0
  | 16 => (-1)
  | 17 => 0
  | 18 => 0
  | 19 => (-1)
  | 20 => 0
  | 21 => 0
  | 22 => 0
  | 23 => 0
  | 24 => 0
  | 25 => 0
  | 26 => (-2147483648)
  | 27 => 0
  | 28 => 0
  | 29 => 0
  | 30 => 0
  | 31 => 0
  | 32 => 0
  | 33 => 0
  | 34 => 0
  | 35 => 0
  | 36 => 0
  | 37 => 0
  | 38 => 0
  | 39 => 0
  | 40 => 0
  | 41 => (-2)
  | 42 => (-2147483648)
  | 43 => 0
  | 44 => 0
  | 45 => 0
  | 46 => (-2147483648)
  | 47 => 0
  | 48 => 0
  | 49 => (-300)
  | 50 => 0
  | 51 => 0
  | 52 => 0
  | 53 => 0
  | 54 => 0
  | 55 => 0
  | 56 => 0
  | 57 => 0
  | 58 => (-2147483648)
  | 59 => 0
  | 60 => 0
  | 61 => 0
  | 62 => (-20000)
  | 63 => 0
  | 64 => 0
  | 65 => (-1)
  | 66 => 0
  | 67 => 0
  | 68 => 0
  | 69 => (-100)
  | 70 => 0
  | 71 => 0
  | 72 => 0
  | 73 => 0
  | 74 => 0
  | 75 => 0
  | 76 => 0
  | 77 => 0
  | 78 => (-1)
  | 79 => 0
  | 80 => 0
  | 81 => 0
  | 82 => 0
  | 83 => 0
  | 84 => 0
  | 85 => 0
  | 86 => 0
  | 87 => 0
  | 88 => 0
  | 89 => 0
  | 90 => 0
  | 91 => (-2147483648)
  | 92 => 0
  | 93 => 0
  | 94 => 0
  | 95 => 0
  | 96 => 0
  | 97 => 0
  | 98 => 0
  | 99 => (-2)
  | 100 => 0
  | 101 => 0
  | 102 => 0
  | _ => 0
def CHa : Nat → Int → Int := fun k j => match k with
  | 0 => 255
  | 1 => 999
  | 2 => 65535
  | 3 => 30000
  | 4 => 1499
  | 5 => 2500
  | 6 => 2500
  | 7 => 2499
  | 8 => 1
  | 9 => 1499
  | 10 => 99
  | 11 => 999
  | 12 => 2499
  | 13 => 4
  | 14 => 30000
  | 15 => 999
  | 16 => 1499
  | 17 => (if j = 0 then 1500 else (if j = 1 then 1000 else (if j = 2 then 2500 else (if j = 3 then 100 else 30000))))
  | 18 => 1
  | 19 => 1499
  | 20 => 999
  | 21 => 1
  | 22 => 1499
  | 23 => 999
  | 24 => 999
  | 25 => (if j % 3 = 1 then 1500 else 1000)
  | 26 => 2147483647
  | 27 => 90000
  | 28 => 60
  | 29 => 1499
  | 30 => 20000
  | 31 => 20000
  | 32 => 999999
  | 33 => 20000
  | 34 => 20000
  | 35 => 1499
  | 36 => 20000
  | 37 => 19999
  | 38 => (if j = 0 then 90000 else (if j = 1 then 20000 else (if j = 2 then 20000 else 20000)))
  | 39 => 1060
  | 40 => 42000
  | 41 => 1000
  | 42 => 2147483647
  | 43 => 1060
  | 44 => 42000
  | 45 => 1000
  | 46 => 2147483647
  | 47 => 999
  | 48 => 999
  | 49 => 67035
  | 50 => 60000
  | 51 => 1499
  | 52 => 19999
  | 53 => 19999
  | 54 => 999
  | 55 => 19999
  | 56 => 20000
  | 57 => 20000
  | 58 => 2147483647
  | 59 => 30000
  | 60 => 2000
  | 61 => 1499
  | 62 => 19999
  | 63 => 19999
  | 64 => 20000
  | 65 => 1499
  | 66 => 4000
  | 67 => 30000
  | 68 => 30000
  | 69 => 999
  | 70 => 1499
  | 71 => 1500
  | 72 => 1500
  | 73 => 30000
  | 74 => 30000
  | 75 => 1499
  | 76 => 99
  | 77 => 999
  | 78 => 1499
  | 79 => 1499
  | 80 => 30000
  | 81 => 2
  | 82 => 2
  | 83 => 2
  | 84 => 1499
  | 85 => 59
  | 86 => 59
  | 87 => 1499
  | 88 => 359999
  | 89 => 59
  | 90 => 59
  | 91 => 2147483647
  | 92 => 1500
  | 93 => 1500
  | 94 => 1500
  | 95 => 1500
  | 96 => 1
  | 97 => 1060
  | 98 => 1048576
  | 99 => 600
  | 100 => 1060
  | 101 => 65535
  | 102 => 65535
  | _ => 0
def CTV (v : Nat → Int) : Prop := ∀ i, CLo i ≤ v i ∧ v i ≤ CHi i
def CTA (a : Nat → Int → Int) : Prop := ∀ k j, CLa k j ≤ a k j ∧ a k j ≤ CHa k j
theorem CTV_up {v : Nat → Int} {i : Nat} {x : Int} (h : CTV v) (hx : CLo i ≤ x ∧ x ≤ CHi i) : CTV (up v i x) := by
  intro j
  unfold up
  by_cases q : j = i
  · rw [if_pos q, q]; exact hx
  · rw [if_neg q]; exact h j
theorem CTA_ua {a : Nat → Int → Int} {k : Nat} {f : Int → Int} (h : CTA a) (hf : ∀ j, CLa k j ≤ f j ∧ f j ≤ CHa k j) : CTA (ua a k f) := by
  intro i j
  unfold ua
  by_cases q : i = k
  · rw [if_pos q, q]; exact hf j
  · rw [if_neg q]; exact h i j
def MLo : Nat → Int := fun i => match i with
  | 0 => 0
  | 1 => 0
  | 2 => 0
  | 3 => 0
  | 4 => 0
  | 5 => 0
  | 6 => 0
  | 7 => 0
  | 8 => 0
  | 9 => 0
  | 10 => (-1)
  | 11 => (-1)
  | 12 => 0
  | 13 => 0
  | 14 => 0
  | 15 => 0
  | 16 => 0
  | 17 => 0
  | 18 => 0
  | 19 => (-1)
  | 20 => 0
  | 21 => (-1)
  | 22 => 0
  | 23 => 0
  | 24 => 0
  | 25 => 0
  | 26 => 0
  | 27 => 0
  | 28 => 0
  | 29 => 0
  | 30 => 0
  | 31 => 0
  | 32 => 0
  | 33 => 0
  | 34 => 0
  | 35 => 0
  | 36 => 0
  | 37 => 0
  | 38 => 0
  | 39 => 0
  | 40 => 0
  | 41 => 0
  | 42 => 0
  | 43 => 0
  | 44 => 0
  | 45 => 0
  | 46 => 0
  | 47 => 0
  | 48 => 0
  | 49 => 0
  | 50 => 0
  | 51 => 0
  | 52 => 0
  | 53 => 0
  | 54 => 0
  | _ => 0
def MHi : Nat → Int := fun i => match i with
  | 0 => 60000
  | 1 => 1
  | 2 => 30000
  | 3 => 1000
  | 4 => 100
  | 5 => 1500
  | 6 => 30000
  | 7 => 90000
  | 8 => 20000
  | 9 => 20000
  | 10 => 999
  | 11 => 999
  | 12 => 1000
  | 13 => 1500
  | 14 => 1000
  | 15 => 50
  | 16 => 60000
  | 17 => 60000
  | 18 => 60000
  | 19 => 125
  | 20 => 19
  | 21 => 60000
  | 22 => 1499
  | 23 => 1
  | 24 => 60000
  | 25 => 300
  | 26 => 5000010
  | 27 => 1
  | 28 => 1
  | 29 => 300
  | 30 => 200
  | 31 => 40000
  | 32 => 300
  | 33 => 40000
  | 34 => 1001
  | 35 => 19
  | 36 => 20000
  | 37 => 120000
  | 38 => 1500
  | 39 => 24001
  | 40 => 24000
  | 41 => 0
  | 42 => 40000
  | 43 => 1500
  | 44 => 40000
  | 45 => 59
  | 46 => 100
  | 47 => 30001
  | 48 => 1500
  | 49 => 1
  | 50 => 1500
  | 51 => 60000
  | 52 => 120000
  | 53 => 460000
  | 54 => 1300
  | _ => 0
def MLa : Nat → Int → Int := fun k j => match k with
  | 0 => 0
  | 1 => 0
  | 2 => 0
  | 3 => 0
  | 4 => 0
  | 5 => 0
  | 6 => (-1)
  | 7 => (-1)
  | 8 => 0
  | 9 => 0
  | 10 => (-1)
  | 11 => (-1)
  | 12 => 0
  | 13 => 0
  | 14 => 0
  | 15 => 0
  | 16 => 0
  | 17 => (-1)
  | 18 => 0
  | 19 => 0
  | 20 => 0
  | 21 => 0
  | 22 => 0
  | 23 => 0
  | 24 => 0
  | 25 => 0
  | 26 => 0
  | 27 => (-300)
  | 28 => 0
  | 29 => 0
  | 30 => 0
  | 31 => 0
  | 32 => 0
  | 33 => 0
  | 34 => 0
  | 35 => 0
  | 36 => 0
  | 37 => 0
  | 38 => 0
  | 39 => 0
  | 40 => 0
  | 41 => 0
  | 42 => 0
  | 43 => 0
  | 44 => 0
  | 45 => 0
  | 46 => 0
  | 47 => 0
  | 48 => 0
  | 49 => 0
  | 50 => 0
  | 51 => 0
  | 52 => 0
  | 53 => 0
  | 54 => (-1)
  | 55 => (-1)
  | 56 => 0
  | 57 => 0
  | 58 => 0
  | 59 => 0
  | 60 => 0
  | 61 => 0
  | 62 => (-2147483648)
  | 63 => (-2147483648)
  | 64 => 0
  | 65 => 0
  | 66 => 0
  | 67 => 0
  | 68 => 0
  | 69 => (-1)
  | 70 => (-20001)
  | 71 => (-1)
  | 72 => 0
  | 73 => (-1)
  | 74 => (-1)
  | 75 => 0
  | 76 => (-1)
  | 77 => (-1001)
  | 78 => (-1)
  | 79 => (-1)
  | 80 => (-1)
  | 81 => 0
  | 82 => 0
  | 83 => 0
  | 84 => 0
  | 85 => (-2147483648)
  | 86 => (-1500)
  | 87 => 0
  | 88 => 0
  | 89 => 0
  | 90 => (-1)
  | 91 => 0
  | 92 => 0
  | 93 => 0
  | 94 => (-1)
  | 95 => (-9)
  | 96 => 0
  | 97 => (-1)
  | 98 => 0
  | 99 => 0
  | 100 => (-1)
  | 101 => (-61)
  | 102 => (-2147483648)
  | 103 => 0
  | 104 => (-1)
  | 105 => 0
  | 106 => 0
  | _ => 0
def MHa : Nat → Int → Int := fun k j => match k with
  | 0 => 255
  | 1 => 255
  | 2 => 30000
  | 3 => 60
  | 4 => 30000
  | 5 => 60
  | 6 => 999
  | 7 => 1499
  | 8 => 1
  | 9 => 1
  | 10 => 999
  | 11 => 1499
  | 12 => 1
  | 13 => 4
  | 14 => 30000
  | 15 => 300
  | 16 => 999
  | 17 => 1499
  | 18 => 90000
  | 19 => 60
  | 20 => 1499
  | 21 => 20000
  | 22 => 20000
  | 23 => 999
  | 24 => 999
  | 25 => 20000
  | 26 => 20000
  | 27 => 1499
  | 28 => 1
  | 29 => 60000
  | 30 => 999
  | 31 => 1499
  | 32 => 999
  | 33 => 999
  | 34 => 1000
  | 35 => 1500
  | 36 => 1000
  | 37 => 999
  | 38 => 1
  | 39 => 1499
  | 40 => 40000
  | 41 => 1000
  | 42 => 20000
  | 43 => 999
  | 44 => 40000
  | 45 => 1000
  | 46 => 20000
  | 47 => 999
  | 48 => 40001
  | 49 => 1000
  | 50 => 999
  | 51 => 1
  | 52 => 1
  | 53 => 1
  | 54 => 999
  | 55 => 1499
  | 56 => 1499
  | 57 => 120000
  | 58 => 20000
  | 59 => 255
  | 60 => 255
  | 61 => 20000
  | 62 => 2147483647
  | 63 => 2147483647
  | 64 => 0
  | 65 => 60000
  | 66 => 60
  | 67 => 1499
  | 68 => 2000
  | 69 => 20000
  | 70 => 20000
  | 71 => 99
  | 72 => 999
  | 73 => 99
  | 74 => 1499
  | 75 => 3
  | 76 => 1499
  | 77 => 999
  | 78 => 30001
  | 79 => 30001
  | 80 => 30001
  | 81 => 1500
  | 82 => 1500
  | 83 => 1500
  | 84 => 1499
  | 85 => 2147483647
  | 86 => 1499
  | 87 => 120000
  | 88 => 59
  | 89 => 59
  | 90 => 99
  | 91 => 60000
  | 92 => 3
  | 93 => 300
  | 94 => 2
  | 95 => 1499
  | 96 => 1
  | 97 => 1499
  | 98 => 1
  | 99 => 460000
  | 100 => 599
  | 101 => 999
  | 102 => 2147483647
  | 103 => 999
  | 104 => 59
  | 105 => 59
  | 106 => 60000
  | _ => 0
def MTV (v : Nat → Int) : Prop := ∀ i, MLo i ≤ v i ∧ v i ≤ MHi i
def MTA (a : Nat → Int → Int) : Prop := ∀ k j, MLa k j ≤ a k j ∧ a k j ≤ MHa k j
theorem MTV_up {v : Nat → Int} {i : Nat} {x : Int} (h : MTV v) (hx : MLo i ≤ x ∧ x ≤ MHi i) : MTV (up v i x) := by
  intro j
  unfold up
  by_cases q : j = i
  · rw [if_pos q, q]; exact hx
  · rw [if_neg q]; exact h j
theorem MTA_ua {a : Nat → Int → Int} {k : Nat} {f : Int → Int} (h : MTA a) (hf : ∀ j, MLa k j ≤ f j ∧ f j ≤ MHa k j) : MTA (ua a k f) := by
  intro i j
  unfold ua
  by_cases q : i = k
  · rw [if_pos q, q]; exact hf j
  · rw [if_neg q]; exact h i j
section STC
variable {g : gG} {q : Nat → Nat} {lb : Nat} {v : Nat → Int} {a : Nat → Int → Int} {b : Nat → Int → Int64}
set_option maxRecDepth 10000 in
theorem Csa0 (f : Int → Int) : (CW g q lb v a b).set 13 (q 13, .inl (kC g, 60000, .inl (fun j => I (f (j : Int))))) = CW g q lb v (ua a 0 f) b := rfl
set_option maxRecDepth 10000 in
theorem Csa1 (f : Int → Int) : (CW g q lb v a b).set 14 (q 14, .inl (kI g, 60, .inl (fun j => I (f (j : Int))))) = CW g q lb v (ua a 1 f) b := rfl
set_option maxRecDepth 10000 in
theorem Csa2 (f : Int → Int) : (CW g q lb v a b).set 15 (q 15, .inl (kC g, 30000, .inl (fun j => I (f (j : Int))))) = CW g q lb v (ua a 2 f) b := rfl
set_option maxRecDepth 10000 in
theorem Csa3 (f : Int → Int) : (CW g q lb v a b).set 16 (q 16, .inl (kI g, 2501, .inl (fun j => I (f (j : Int))))) = CW g q lb v (ua a 3 f) b := rfl
set_option maxRecDepth 10000 in
theorem Csa4 (f : Int → Int) : (CW g q lb v a b).set 17 (q 17, .inl (kI g, 2500, .inl (fun j => I (f (j : Int))))) = CW g q lb v (ua a 4 f) b := rfl
set_option maxRecDepth 10000 in
theorem Csa5 (f : Int → Int) : (CW g q lb v a b).set 18 (q 18, .inl (kI g, 2500, .inl (fun j => I (f (j : Int))))) = CW g q lb v (ua a 5 f) b := rfl
set_option maxRecDepth 10000 in
theorem Csa6 (f : Int → Int) : (CW g q lb v a b).set 19 (q 19, .inl (kI g, 4096, .inl (fun j => I (f (j : Int))))) = CW g q lb v (ua a 6 f) b := rfl
set_option maxRecDepth 10000 in
theorem Csa7 (f : Int → Int) : (CW g q lb v a b).set 20 (q 20, .inl (kI g, 1000, .inl (fun j => I (f (j : Int))))) = CW g q lb v (ua a 7 f) b := rfl
set_option maxRecDepth 10000 in
theorem Csa8 (f : Int → Int) : (CW g q lb v a b).set 21 (q 21, .inl (kZ g, 1000, .inl (fun j => I (f (j : Int))))) = CW g q lb v (ua a 8 f) b := rfl
set_option maxRecDepth 10000 in
theorem Csa9 (f : Int → Int) : (CW g q lb v a b).set 22 (q 22, .inl (kI g, 1000, .inl (fun j => I (f (j : Int))))) = CW g q lb v (ua a 9 f) b := rfl
set_option maxRecDepth 10000 in
theorem Csa10 (f : Int → Int) : (CW g q lb v a b).set 23 (q 23, .inl (kI g, 1000, .inl (fun j => I (f (j : Int))))) = CW g q lb v (ua a 10 f) b := rfl
set_option maxRecDepth 10000 in
theorem Csa11 (f : Int → Int) : (CW g q lb v a b).set 24 (q 24, .inl (kI g, 100, .inl (fun j => I (f (j : Int))))) = CW g q lb v (ua a 11 f) b := rfl
set_option maxRecDepth 10000 in
theorem Csa12 (f : Int → Int) : (CW g q lb v a b).set 25 (q 25, .inl (kI g, 1500, .inl (fun j => I (f (j : Int))))) = CW g q lb v (ua a 12 f) b := rfl
set_option maxRecDepth 10000 in
theorem Csa13 (f : Int → Int) : (CW g q lb v a b).set 26 (q 26, .inl (kI g, 1500, .inl (fun j => I (f (j : Int))))) = CW g q lb v (ua a 13 f) b := rfl
set_option maxRecDepth 10000 in
theorem Csa14 (f : Int → Int) : (CW g q lb v a b).set 27 (q 27, .inl (kI g, 1501, .inl (fun j => I (f (j : Int))))) = CW g q lb v (ua a 14 f) b := rfl
set_option maxRecDepth 10000 in
theorem Csa15 (f : Int → Int) : (CW g q lb v a b).set 28 (q 28, .inl (kI g, 30000, .inl (fun j => I (f (j : Int))))) = CW g q lb v (ua a 15 f) b := rfl
set_option maxRecDepth 10000 in
theorem Csa16 (f : Int → Int) : (CW g q lb v a b).set 29 (q 29, .inl (kI g, 30000, .inl (fun j => I (f (j : Int))))) = CW g q lb v (ua a 16 f) b := rfl
set_option maxRecDepth 10000 in
theorem Csa17 (f : Int → Int) : (CW g q lb v a b).set 30 (q 30, .inl (kI g, 5, .inl (fun j => I (f (j : Int))))) = CW g q lb v (ua a 17 f) b := rfl
set_option maxRecDepth 10000 in
theorem Csa18 (f : Int → Int) : (CW g q lb v a b).set 31 (q 31, .inl (kZ g, 1000, .inl (fun j => I (f (j : Int))))) = CW g q lb v (ua a 18 f) b := rfl
set_option maxRecDepth 10000 in
theorem Csa19 (f : Int → Int) : (CW g q lb v a b).set 32 (q 32, .inl (kI g, 1000, .inl (fun j => I (f (j : Int))))) = CW g q lb v (ua a 19 f) b := rfl
set_option maxRecDepth 10000 in
theorem Csa20 (f : Int → Int) : (CW g q lb v a b).set 33 (q 33, .inl (kI g, 1000, .inl (fun j => I (f (j : Int))))) = CW g q lb v (ua a 20 f) b := rfl
set_option maxRecDepth 10000 in
theorem Csa21 (f : Int → Int) : (CW g q lb v a b).set 34 (q 34, .inl (kZ g, 1500, .inl (fun j => I (f (j : Int))))) = CW g q lb v (ua a 21 f) b := rfl
set_option maxRecDepth 10000 in
theorem Csa22 (f : Int → Int) : (CW g q lb v a b).set 35 (q 35, .inl (kI g, 1500, .inl (fun j => I (f (j : Int))))) = CW g q lb v (ua a 22 f) b := rfl
set_option maxRecDepth 10000 in
theorem Csa23 (f : Int → Int) : (CW g q lb v a b).set 36 (q 36, .inl (kI g, 1000, .inl (fun j => I (f (j : Int))))) = CW g q lb v (ua a 23 f) b := rfl
set_option maxRecDepth 10000 in
theorem Csa24 (f : Int → Int) : (CW g q lb v a b).set 37 (q 37, .inl (kI g, 1000, .inl (fun j => I (f (j : Int))))) = CW g q lb v (ua a 24 f) b := rfl
set_option maxRecDepth 10000 in
theorem Csa25 (f : Int → Int) : (CW g q lb v a b).set 39 (q 39, .inl (kI g, 153, .inl (fun j => I (f (j : Int))))) = CW g q lb v (ua a 25 f) b := rfl
set_option maxRecDepth 10000 in
theorem Csa26 (f : Int → Int) : (CW g q lb v a b).set 40 (q 40, .inl (kI g, 1000, .inl (fun j => I (f (j : Int))))) = CW g q lb v (ua a 26 f) b := rfl
set_option maxRecDepth 10000 in
theorem Csa27 (f : Int → Int) : (CW g q lb v a b).set 41 (q 41, .inl (kI g, 1500, .inl (fun j => I (f (j : Int))))) = CW g q lb v (ua a 27 f) b := rfl
set_option maxRecDepth 10000 in
theorem Csa28 (f : Int → Int) : (CW g q lb v a b).set 42 (q 42, .inl (kI g, 1500, .inl (fun j => I (f (j : Int))))) = CW g q lb v (ua a 28 f) b := rfl
set_option maxRecDepth 10000 in
theorem Csa29 (f : Int → Int) : (CW g q lb v a b).set 43 (q 43, .inl (kI g, 90000, .inl (fun j => I (f (j : Int))))) = CW g q lb v (ua a 29 f) b := rfl
set_option maxRecDepth 10000 in
theorem Csa30 (f : Int → Int) : (CW g q lb v a b).set 44 (q 44, .inl (kI g, 1500, .inl (fun j => I (f (j : Int))))) = CW g q lb v (ua a 30 f) b := rfl
set_option maxRecDepth 10000 in
theorem Csa31 (f : Int → Int) : (CW g q lb v a b).set 45 (q 45, .inl (kI g, 1500, .inl (fun j => I (f (j : Int))))) = CW g q lb v (ua a 31 f) b := rfl
set_option maxRecDepth 10000 in
theorem Csa32 (f : Int → Int) : (CW g q lb v a b).set 46 (q 46, .inl (kI g, 20000, .inl (fun j => I (f (j : Int))))) = CW g q lb v (ua a 32 f) b := rfl
set_option maxRecDepth 10000 in
theorem Csa33 (f : Int → Int) : (CW g q lb v a b).set 47 (q 47, .inl (kI g, 1500, .inl (fun j => I (f (j : Int))))) = CW g q lb v (ua a 33 f) b := rfl
set_option maxRecDepth 10000 in
theorem Csa34 (f : Int → Int) : (CW g q lb v a b).set 48 (q 48, .inl (kI g, 1500, .inl (fun j => I (f (j : Int))))) = CW g q lb v (ua a 34 f) b := rfl
set_option maxRecDepth 10000 in
theorem Csa35 (f : Int → Int) : (CW g q lb v a b).set 49 (q 49, .inl (kI g, 20000, .inl (fun j => I (f (j : Int))))) = CW g q lb v (ua a 35 f) b := rfl
set_option maxRecDepth 10000 in
theorem Csa36 (f : Int → Int) : (CW g q lb v a b).set 50 (q 50, .inl (kI g, 20001, .inl (fun j => I (f (j : Int))))) = CW g q lb v (ua a 36 f) b := rfl
set_option maxRecDepth 10000 in
theorem Csa37 (f : Int → Int) : (CW g q lb v a b).set 51 (q 51, .inl (kI g, 20000, .inl (fun j => I (f (j : Int))))) = CW g q lb v (ua a 37 f) b := rfl
set_option maxRecDepth 10000 in
theorem Csa38 (f : Int → Int) : (CW g q lb v a b).set 54 (q 54, .inl (kI g, 4, .inl (fun j => I (f (j : Int))))) = CW g q lb v (ua a 38 f) b := rfl
set_option maxRecDepth 10000 in
theorem Csa39 (f : Int → Int) : (CW g q lb v a b).set 55 (q 55, .inl (kI g, 42000, .inl (fun j => I (f (j : Int))))) = CW g q lb v (ua a 39 f) b := rfl
set_option maxRecDepth 10000 in
theorem Csa40 (f : Int → Int) : (CW g q lb v a b).set 56 (q 56, .inl (kI g, 20000, .inl (fun j => I (f (j : Int))))) = CW g q lb v (ua a 40 f) b := rfl
set_option maxRecDepth 10000 in
theorem Csa41 (f : Int → Int) : (CW g q lb v a b).set 57 (q 57, .inl (kI g, 20000, .inl (fun j => I (f (j : Int))))) = CW g q lb v (ua a 41 f) b := rfl
set_option maxRecDepth 10000 in
theorem Csa42 (f : Int → Int) : (CW g q lb v a b).set 58 (q 58, .inl (kI g, 20000, .inl (fun j => I (f (j : Int))))) = CW g q lb v (ua a 42 f) b := rfl
set_option maxRecDepth 10000 in
theorem Csa43 (f : Int → Int) : (CW g q lb v a b).set 59 (q 59, .inl (kI g, 1000, .inl (fun j => I (f (j : Int))))) = CW g q lb v (ua a 43 f) b := rfl
set_option maxRecDepth 10000 in
theorem Csa44 (f : Int → Int) : (CW g q lb v a b).set 60 (q 60, .inl (kI g, 1000, .inl (fun j => I (f (j : Int))))) = CW g q lb v (ua a 44 f) b := rfl
set_option maxRecDepth 10000 in
theorem Csa45 (f : Int → Int) : (CW g q lb v a b).set 61 (q 61, .inl (kI g, 1000, .inl (fun j => I (f (j : Int))))) = CW g q lb v (ua a 45 f) b := rfl
set_option maxRecDepth 10000 in
theorem Csa46 (f : Int → Int) : (CW g q lb v a b).set 62 (q 62, .inl (kI g, 1000, .inl (fun j => I (f (j : Int))))) = CW g q lb v (ua a 46 f) b := rfl
set_option maxRecDepth 10000 in
theorem Csa47 (f : Int → Int) : (CW g q lb v a b).set 63 (q 63, .inl (kI g, 1000, .inl (fun j => I (f (j : Int))))) = CW g q lb v (ua a 47 f) b := rfl
set_option maxRecDepth 10000 in
theorem Csa48 (f : Int → Int) : (CW g q lb v a b).set 64 (q 64, .inl (kI g, 1000, .inl (fun j => I (f (j : Int))))) = CW g q lb v (ua a 48 f) b := rfl
set_option maxRecDepth 10000 in
theorem Csa49 (f : Int → Int) : (CW g q lb v a b).set 65 (q 65, .inl (kI g, 20000, .inl (fun j => I (f (j : Int))))) = CW g q lb v (ua a 49 f) b := rfl
set_option maxRecDepth 10000 in
theorem Csa50 (f : Int → Int) : (CW g q lb v a b).set 66 (q 66, .inl (kI g, 20000, .inl (fun j => I (f (j : Int))))) = CW g q lb v (ua a 50 f) b := rfl
set_option maxRecDepth 10000 in
theorem Csa51 (f : Int → Int) : (CW g q lb v a b).set 67 (q 67, .inl (kI g, 300, .inl (fun j => I (f (j : Int))))) = CW g q lb v (ua a 51 f) b := rfl
set_option maxRecDepth 10000 in
theorem Csa52 (f : Int → Int) : (CW g q lb v a b).set 68 (q 68, .inl (kI g, 200, .inl (fun j => I (f (j : Int))))) = CW g q lb v (ua a 52 f) b := rfl
set_option maxRecDepth 10000 in
theorem Csa53 (f : Int → Int) : (CW g q lb v a b).set 69 (q 69, .inl (kI g, 300, .inl (fun j => I (f (j : Int))))) = CW g q lb v (ua a 53 f) b := rfl
set_option maxRecDepth 10000 in
theorem Csa54 (f : Int → Int) : (CW g q lb v a b).set 70 (q 70, .inl (kI g, 1000, .inl (fun j => I (f (j : Int))))) = CW g q lb v (ua a 54 f) b := rfl
set_option maxRecDepth 10000 in
theorem Csa55 (f : Int → Int) : (CW g q lb v a b).set 71 (q 71, .inl (kI g, 20000, .inl (fun j => I (f (j : Int))))) = CW g q lb v (ua a 55 f) b := rfl
set_option maxRecDepth 10000 in
theorem Csa56 (f : Int → Int) : (CW g q lb v a b).set 72 (q 72, .inl (kI g, 32768, .inl (fun j => I (f (j : Int))))) = CW g q lb v (ua a 56 f) b := rfl
set_option maxRecDepth 10000 in
theorem Csa57 (f : Int → Int) : (CW g q lb v a b).set 73 (q 73, .inl (kI g, 20000, .inl (fun j => I (f (j : Int))))) = CW g q lb v (ua a 57 f) b := rfl
set_option maxRecDepth 10000 in
theorem Csa58 (f : Int → Int) : (CW g q lb v a b).set 74 (q 74, .inl (kI g, 20000, .inl (fun j => I (f (j : Int))))) = CW g q lb v (ua a 58 f) b := rfl
set_option maxRecDepth 10000 in
theorem Csa59 (f : Int → Int) : (CW g q lb v a b).set 75 (q 75, .inl (kI g, 20000, .inl (fun j => I (f (j : Int))))) = CW g q lb v (ua a 59 f) b := rfl
set_option maxRecDepth 10000 in
theorem Csa60 (f : Int → Int) : (CW g q lb v a b).set 76 (q 76, .inl (kI g, 1500, .inl (fun j => I (f (j : Int))))) = CW g q lb v (ua a 60 f) b := rfl
set_option maxRecDepth 10000 in
theorem Csa61 (f : Int → Int) : (CW g q lb v a b).set 77 (q 77, .inl (kI g, 1500, .inl (fun j => I (f (j : Int))))) = CW g q lb v (ua a 61 f) b := rfl
set_option maxRecDepth 10000 in
theorem Csa62 (f : Int → Int) : (CW g q lb v a b).set 78 (q 78, .inl (kI g, 20001, .inl (fun j => I (f (j : Int))))) = CW g q lb v (ua a 62 f) b := rfl
set_option maxRecDepth 10000 in
theorem Csa63 (f : Int → Int) : (CW g q lb v a b).set 79 (q 79, .inl (kI g, 20000, .inl (fun j => I (f (j : Int))))) = CW g q lb v (ua a 63 f) b := rfl
set_option maxRecDepth 10000 in
theorem Csa64 (f : Int → Int) : (CW g q lb v a b).set 80 (q 80, .inl (kI g, 20000, .inl (fun j => I (f (j : Int))))) = CW g q lb v (ua a 64 f) b := rfl
set_option maxRecDepth 10000 in
theorem Csa65 (f : Int → Int) : (CW g q lb v a b).set 81 (q 81, .inl (kI g, 4000, .inl (fun j => I (f (j : Int))))) = CW g q lb v (ua a 65 f) b := rfl
set_option maxRecDepth 10000 in
theorem Csa66 (f : Int → Int) : (CW g q lb v a b).set 82 (q 82, .inl (kI g, 20000, .inl (fun j => I (f (j : Int))))) = CW g q lb v (ua a 66 f) b := rfl
set_option maxRecDepth 10000 in
theorem Csa67 (f : Int → Int) : (CW g q lb v a b).set 83 (q 83, .inl (kI g, 30001, .inl (fun j => I (f (j : Int))))) = CW g q lb v (ua a 67 f) b := rfl
set_option maxRecDepth 10000 in
theorem Csa68 (f : Int → Int) : (CW g q lb v a b).set 84 (q 84, .inl (kI g, 30001, .inl (fun j => I (f (j : Int))))) = CW g q lb v (ua a 68 f) b := rfl
set_option maxRecDepth 10000 in
theorem Csa69 (f : Int → Int) : (CW g q lb v a b).set 85 (q 85, .inl (kI g, 30001, .inl (fun j => I (f (j : Int))))) = CW g q lb v (ua a 69 f) b := rfl
set_option maxRecDepth 10000 in
theorem Csa70 (f : Int → Int) : (CW g q lb v a b).set 86 (q 86, .inl (kI g, 30001, .inl (fun j => I (f (j : Int))))) = CW g q lb v (ua a 70 f) b := rfl
set_option maxRecDepth 10000 in
theorem Csa71 (f : Int → Int) : (CW g q lb v a b).set 87 (q 87, .inl (kI g, 30001, .inl (fun j => I (f (j : Int))))) = CW g q lb v (ua a 71 f) b := rfl
set_option maxRecDepth 10000 in
theorem Csa72 (f : Int → Int) : (CW g q lb v a b).set 88 (q 88, .inl (kI g, 1500, .inl (fun j => I (f (j : Int))))) = CW g q lb v (ua a 72 f) b := rfl
set_option maxRecDepth 10000 in
theorem Csa73 (f : Int → Int) : (CW g q lb v a b).set 89 (q 89, .inl (kI g, 1000, .inl (fun j => I (f (j : Int))))) = CW g q lb v (ua a 73 f) b := rfl
set_option maxRecDepth 10000 in
theorem Csa74 (f : Int → Int) : (CW g q lb v a b).set 90 (q 90, .inl (kI g, 100, .inl (fun j => I (f (j : Int))))) = CW g q lb v (ua a 74 f) b := rfl
set_option maxRecDepth 10000 in
theorem Csa75 (f : Int → Int) : (CW g q lb v a b).set 91 (q 91, .inl (kI g, 1500, .inl (fun j => I (f (j : Int))))) = CW g q lb v (ua a 75 f) b := rfl
set_option maxRecDepth 10000 in
theorem Csa76 (f : Int → Int) : (CW g q lb v a b).set 92 (q 92, .inl (kI g, 1500, .inl (fun j => I (f (j : Int))))) = CW g q lb v (ua a 76 f) b := rfl
set_option maxRecDepth 10000 in
theorem Csa77 (f : Int → Int) : (CW g q lb v a b).set 93 (q 93, .inl (kI g, 60, .inl (fun j => I (f (j : Int))))) = CW g q lb v (ua a 77 f) b := rfl
set_option maxRecDepth 10000 in
theorem Csa78 (f : Int → Int) : (CW g q lb v a b).set 94 (q 94, .inl (kI g, 60, .inl (fun j => I (f (j : Int))))) = CW g q lb v (ua a 78 f) b := rfl
set_option maxRecDepth 10000 in
theorem Csa79 (f : Int → Int) : (CW g q lb v a b).set 98 (q 98, .inl (kI g, 177000, .inl (fun j => I (f (j : Int))))) = CW g q lb v (ua a 79 f) b := rfl
set_option maxRecDepth 10000 in
theorem Csa80 (f : Int → Int) : (CW g q lb v a b).set 99 (q 99, .inl (kI g, 61, .inl (fun j => I (f (j : Int))))) = CW g q lb v (ua a 80 f) b := rfl
set_option maxRecDepth 10000 in
theorem Csa81 (f : Int → Int) : (CW g q lb v a b).set 102 (q 102, .inl (kI g, 100, .inl (fun j => I (f (j : Int))))) = CW g q lb v (ua a 81 f) b := rfl
set_option maxRecDepth 10000 in
theorem Csa82 (f : Int → Int) : (CW g q lb v a b).set 103 (q 103, .inl (kI g, 100, .inl (fun j => I (f (j : Int))))) = CW g q lb v (ua a 82 f) b := rfl
set_option maxRecDepth 10000 in
theorem Csa83 (f : Int → Int) : (CW g q lb v a b).set 104 (q 104, .inl (kI g, 100, .inl (fun j => I (f (j : Int))))) = CW g q lb v (ua a 83 f) b := rfl
set_option maxRecDepth 10000 in
theorem Csa84 (f : Int → Int) : (CW g q lb v a b).set 105 (q 105, .inl (kI g, 12000, .inl (fun j => I (f (j : Int))))) = CW g q lb v (ua a 84 f) b := rfl
set_option maxRecDepth 10000 in
theorem Csa85 (f : Int → Int) : (CW g q lb v a b).set 106 (q 106, .inl (kI g, 12000, .inl (fun j => I (f (j : Int))))) = CW g q lb v (ua a 85 f) b := rfl
set_option maxRecDepth 10000 in
theorem Csa86 (f : Int → Int) : (CW g q lb v a b).set 107 (q 107, .inl (kI g, 12000, .inl (fun j => I (f (j : Int))))) = CW g q lb v (ua a 86 f) b := rfl
set_option maxRecDepth 10000 in
theorem Csa87 (f : Int → Int) : (CW g q lb v a b).set 108 (q 108, .inl (kI g, 12000, .inl (fun j => I (f (j : Int))))) = CW g q lb v (ua a 87 f) b := rfl
set_option maxRecDepth 10000 in
theorem Csa88 (f : Int → Int) : (CW g q lb v a b).set 109 (q 109, .inl (kI g, 120, .inl (fun j => I (f (j : Int))))) = CW g q lb v (ua a 88 f) b := rfl
set_option maxRecDepth 10000 in
theorem Csa89 (f : Int → Int) : (CW g q lb v a b).set 111 (q 111, .inl (kI g, 1000, .inl (fun j => I (f (j : Int))))) = CW g q lb v (ua a 89 f) b := rfl
set_option maxRecDepth 10000 in
theorem Csa90 (f : Int → Int) : (CW g q lb v a b).set 112 (q 112, .inl (kI g, 1000, .inl (fun j => I (f (j : Int))))) = CW g q lb v (ua a 90 f) b := rfl
set_option maxRecDepth 10000 in
theorem Csa91 (f : Int → Int) : (CW g q lb v a b).set 113 (q 113, .inl (kI g, 1000, .inl (fun j => I (f (j : Int))))) = CW g q lb v (ua a 91 f) b := rfl
set_option maxRecDepth 10000 in
theorem Csa92 (f : Int → Int) : (CW g q lb v a b).set 114 (q 114, .inl (kI g, 1500, .inl (fun j => I (f (j : Int))))) = CW g q lb v (ua a 92 f) b := rfl
set_option maxRecDepth 10000 in
theorem Csa93 (f : Int → Int) : (CW g q lb v a b).set 115 (q 115, .inl (kI g, 1500, .inl (fun j => I (f (j : Int))))) = CW g q lb v (ua a 93 f) b := rfl
set_option maxRecDepth 10000 in
theorem Csa94 (f : Int → Int) : (CW g q lb v a b).set 116 (q 116, .inl (kI g, 1500, .inl (fun j => I (f (j : Int))))) = CW g q lb v (ua a 94 f) b := rfl
set_option maxRecDepth 10000 in
theorem Csa95 (f : Int → Int) : (CW g q lb v a b).set 117 (q 117, .inl (kI g, 1500, .inl (fun j => I (f (j : Int))))) = CW g q lb v (ua a 95 f) b := rfl
set_option maxRecDepth 10000 in
theorem Csa96 (f : Int → Int) : (CW g q lb v a b).set 118 (q 118, .inl (kZ g, 1500, .inl (fun j => I (f (j : Int))))) = CW g q lb v (ua a 96 f) b := rfl
set_option maxRecDepth 10000 in
theorem Csa97 (f : Int → Int) : (CW g q lb v a b).set 119 (q 119, .inl (kI g, lb, .inl (fun j => I (f (j : Int))))) = CW g q lb v (ua a 97 f) b := rfl
set_option maxRecDepth 10000 in
theorem Csa98 (f : Int → Int) : (CW g q lb v a b).set 120 (q 120, .inl (kI g, 1500, .inl (fun j => I (f (j : Int))))) = CW g q lb v (ua a 98 f) b := rfl
set_option maxRecDepth 10000 in
theorem Csa99 (f : Int → Int) : (CW g q lb v a b).set 121 (q 121, .inl (kI g, 1500, .inl (fun j => I (f (j : Int))))) = CW g q lb v (ua a 99 f) b := rfl
set_option maxRecDepth 10000 in
theorem Csa100 (f : Int → Int) : (CW g q lb v a b).set 122 (q 122, .inl (kI g, 1000, .inl (fun j => I (f (j : Int))))) = CW g q lb v (ua a 100 f) b := rfl
set_option maxRecDepth 10000 in
theorem Csa101 (f : Int → Int) : (CW g q lb v a b).set 123 (q 123, .inl (kC g, 24000, .inl (fun j => I (f (j : Int))))) = CW g q lb v (ua a 101 f) b := rfl
set_option maxRecDepth 10000 in
theorem Csa102 (f : Int → Int) : (CW g q lb v a b).set 124 (q 124, .inl (kC g, 24000, .inl (fun j => I (f (j : Int))))) = CW g q lb v (ua a 102 f) b := rfl
set_option maxRecDepth 10000 in
theorem Csl0 (f : Int → Int64) : (CW g q lb v a b).set 38 (q 38, .inl (kJ g, 16000, .inr (.inl (fun j => f (j : Int))))) = CW g q lb v a (ub b 0 f) := rfl
set_option maxRecDepth 10000 in
theorem Csl1 (f : Int → Int64) : (CW g q lb v a b).set 52 (q 52, .inl (kJ g, 20000, .inr (.inl (fun j => f (j : Int))))) = CW g q lb v a (ub b 1 f) := rfl
set_option maxRecDepth 10000 in
theorem Csl2 (f : Int → Int64) : (CW g q lb v a b).set 53 (q 53, .inl (kJ g, 36000, .inr (.inl (fun j => f (j : Int))))) = CW g q lb v a (ub b 2 f) := rfl
set_option maxRecDepth 10000 in
theorem Csl3 (f : Int → Int64) : (CW g q lb v a b).set 95 (q 95, .inl (kJ g, 1000, .inr (.inl (fun j => f (j : Int))))) = CW g q lb v a (ub b 3 f) := rfl
set_option maxRecDepth 10000 in
theorem Csl4 (f : Int → Int64) : (CW g q lb v a b).set 96 (q 96, .inl (kJ g, 6000, .inr (.inl (fun j => f (j : Int))))) = CW g q lb v a (ub b 4 f) := rfl
set_option maxRecDepth 10000 in
theorem Csl5 (f : Int → Int64) : (CW g q lb v a b).set 97 (q 97, .inl (kJ g, 6000, .inr (.inl (fun j => f (j : Int))))) = CW g q lb v a (ub b 5 f) := rfl
set_option maxRecDepth 10000 in
theorem Csl6 (f : Int → Int64) : (CW g q lb v a b).set 100 (q 100, .inl (kJ g, 61, .inr (.inl (fun j => f (j : Int))))) = CW g q lb v a (ub b 6 f) := rfl
set_option maxRecDepth 10000 in
theorem Csl7 (f : Int → Int64) : (CW g q lb v a b).set 101 (q 101, .inl (kJ g, 61, .inr (.inl (fun j => f (j : Int))))) = CW g q lb v a (ub b 7 f) := rfl
set_option maxRecDepth 10000 in
theorem Csl8 (f : Int → Int64) : (CW g q lb v a b).set 110 (q 110, .inl (kJ g, 61, .inr (.inl (fun j => f (j : Int))))) = CW g q lb v a (ub b 8 f) := rfl
end STC
section STM
variable {g : gG} {q : Nat → Nat} {lb : Nat} {v : Nat → Int} {a : Nat → Int → Int} {b : Nat → Int → Int64}
set_option maxRecDepth 10000 in
theorem Msa0 (f : Int → Int) : (MW g q lb v a b).set 1 (q 1, .inl (kI g, 60000, .inl (fun j => I (f (j : Int))))) = MW g q lb v (ua a 0 f) b := rfl
set_option maxRecDepth 10000 in
theorem Msa1 (f : Int → Int) : (MW g q lb v a b).set 2 (q 2, .inl (kI g, 30100, .inl (fun j => I (f (j : Int))))) = MW g q lb v (ua a 1 f) b := rfl
set_option maxRecDepth 10000 in
theorem Msa2 (f : Int → Int) : (MW g q lb v a b).set 3 (q 3, .inl (kI g, 1001, .inl (fun j => I (f (j : Int))))) = MW g q lb v (ua a 2 f) b := rfl
set_option maxRecDepth 10000 in
theorem Msa3 (f : Int → Int) : (MW g q lb v a b).set 4 (q 4, .inl (kI g, 1001, .inl (fun j => I (f (j : Int))))) = MW g q lb v (ua a 3 f) b := rfl
set_option maxRecDepth 10000 in
theorem Msa4 (f : Int → Int) : (MW g q lb v a b).set 5 (q 5, .inl (kI g, 1501, .inl (fun j => I (f (j : Int))))) = MW g q lb v (ua a 4 f) b := rfl
set_option maxRecDepth 10000 in
theorem Msa5 (f : Int → Int) : (MW g q lb v a b).set 6 (q 6, .inl (kI g, 1501, .inl (fun j => I (f (j : Int))))) = MW g q lb v (ua a 5 f) b := rfl
set_option maxRecDepth 10000 in
theorem Msa6 (f : Int → Int) : (MW g q lb v a b).set 7 (q 7, .inl (kI g, 4096, .inl (fun j => I (f (j : Int))))) = MW g q lb v (ua a 6 f) b := rfl
set_option maxRecDepth 10000 in
theorem Msa7 (f : Int → Int) : (MW g q lb v a b).set 8 (q 8, .inl (kI g, 4096, .inl (fun j => I (f (j : Int))))) = MW g q lb v (ua a 7 f) b := rfl
set_option maxRecDepth 10000 in
theorem Msa8 (f : Int → Int) : (MW g q lb v a b).set 9 (q 9, .inl (kZ g, 1001, .inl (fun j => I (f (j : Int))))) = MW g q lb v (ua a 8 f) b := rfl
set_option maxRecDepth 10000 in
theorem Msa9 (f : Int → Int) : (MW g q lb v a b).set 10 (q 10, .inl (kZ g, 1001, .inl (fun j => I (f (j : Int))))) = MW g q lb v (ua a 9 f) b := rfl
set_option maxRecDepth 10000 in
theorem Msa10 (f : Int → Int) : (MW g q lb v a b).set 11 (q 11, .inl (kI g, 1001, .inl (fun j => I (f (j : Int))))) = MW g q lb v (ua a 10 f) b := rfl
set_option maxRecDepth 10000 in
theorem Msa11 (f : Int → Int) : (MW g q lb v a b).set 12 (q 12, .inl (kI g, 1001, .inl (fun j => I (f (j : Int))))) = MW g q lb v (ua a 11 f) b := rfl
set_option maxRecDepth 10000 in
theorem Msa12 (f : Int → Int) : (MW g q lb v a b).set 13 (q 13, .inl (kZ g, 1001, .inl (fun j => I (f (j : Int))))) = MW g q lb v (ua a 12 f) b := rfl
set_option maxRecDepth 10000 in
theorem Msa13 (f : Int → Int) : (MW g q lb v a b).set 14 (q 14, .inl (kI g, 1501, .inl (fun j => I (f (j : Int))))) = MW g q lb v (ua a 13 f) b := rfl
set_option maxRecDepth 10000 in
theorem Msa14 (f : Int → Int) : (MW g q lb v a b).set 15 (q 15, .inl (kI g, 1501, .inl (fun j => I (f (j : Int))))) = MW g q lb v (ua a 14 f) b := rfl
set_option maxRecDepth 10000 in
theorem Msa15 (f : Int → Int) : (MW g q lb v a b).set 16 (q 16, .inl (kI g, 1501, .inl (fun j => I (f (j : Int))))) = MW g q lb v (ua a 15 f) b := rfl
set_option maxRecDepth 10000 in
theorem Msa16 (f : Int → Int) : (MW g q lb v a b).set 17 (q 17, .inl (kI g, 30400, .inl (fun j => I (f (j : Int))))) = MW g q lb v (ua a 16 f) b := rfl
set_option maxRecDepth 10000 in
theorem Msa17 (f : Int → Int) : (MW g q lb v a b).set 18 (q 18, .inl (kI g, 30400, .inl (fun j => I (f (j : Int))))) = MW g q lb v (ua a 17 f) b := rfl
set_option maxRecDepth 10000 in
theorem Msa18 (f : Int → Int) : (MW g q lb v a b).set 19 (q 19, .inl (kI g, 1501, .inl (fun j => I (f (j : Int))))) = MW g q lb v (ua a 18 f) b := rfl
set_option maxRecDepth 10000 in
theorem Msa19 (f : Int → Int) : (MW g q lb v a b).set 20 (q 20, .inl (kI g, 1501, .inl (fun j => I (f (j : Int))))) = MW g q lb v (ua a 19 f) b := rfl
set_option maxRecDepth 10000 in
theorem Msa20 (f : Int → Int) : (MW g q lb v a b).set 21 (q 21, .inl (kI g, 90100, .inl (fun j => I (f (j : Int))))) = MW g q lb v (ua a 20 f) b := rfl
set_option maxRecDepth 10000 in
theorem Msa21 (f : Int → Int) : (MW g q lb v a b).set 22 (q 22, .inl (kI g, 1501, .inl (fun j => I (f (j : Int))))) = MW g q lb v (ua a 21 f) b := rfl
set_option maxRecDepth 10000 in
theorem Msa22 (f : Int → Int) : (MW g q lb v a b).set 23 (q 23, .inl (kI g, 1501, .inl (fun j => I (f (j : Int))))) = MW g q lb v (ua a 22 f) b := rfl
set_option maxRecDepth 10000 in
theorem Msa23 (f : Int → Int) : (MW g q lb v a b).set 24 (q 24, .inl (kI g, 20000, .inl (fun j => I (f (j : Int))))) = MW g q lb v (ua a 23 f) b := rfl
set_option maxRecDepth 10000 in
theorem Msa24 (f : Int → Int) : (MW g q lb v a b).set 25 (q 25, .inl (kI g, 20000, .inl (fun j => I (f (j : Int))))) = MW g q lb v (ua a 24 f) b := rfl
set_option maxRecDepth 10000 in
theorem Msa25 (f : Int → Int) : (MW g q lb v a b).set 26 (q 26, .inl (kI g, 1501, .inl (fun j => I (f (j : Int))))) = MW g q lb v (ua a 25 f) b := rfl
set_option maxRecDepth 10000 in
theorem Msa26 (f : Int → Int) : (MW g q lb v a b).set 27 (q 27, .inl (kI g, 1501, .inl (fun j => I (f (j : Int))))) = MW g q lb v (ua a 26 f) b := rfl
set_option maxRecDepth 10000 in
theorem Msa27 (f : Int → Int) : (MW g q lb v a b).set 28 (q 28, .inl (kI g, 20001, .inl (fun j => I (f (j : Int))))) = MW g q lb v (ua a 27 f) b := rfl
set_option maxRecDepth 10000 in
theorem Msa28 (f : Int → Int) : (MW g q lb v a b).set 29 (q 29, .inl (kZ g, 20001, .inl (fun j => I (f (j : Int))))) = MW g q lb v (ua a 28 f) b := rfl
set_option maxRecDepth 10000 in
theorem Msa29 (f : Int → Int) : (MW g q lb v a b).set 30 (q 30, .inl (kI g, 20001, .inl (fun j => I (f (j : Int))))) = MW g q lb v (ua a 29 f) b := rfl
set_option maxRecDepth 10000 in
theorem Msa30 (f : Int → Int) : (MW g q lb v a b).set 32 (q 32, .inl (kI g, 1001, .inl (fun j => I (f (j : Int))))) = MW g q lb v (ua a 30 f) b := rfl
set_option maxRecDepth 10000 in
theorem Msa31 (f : Int → Int) : (MW g q lb v a b).set 33 (q 33, .inl (kI g, 1501, .inl (fun j => I (f (j : Int))))) = MW g q lb v (ua a 31 f) b := rfl
set_option maxRecDepth 10000 in
theorem Msa32 (f : Int → Int) : (MW g q lb v a b).set 34 (q 34, .inl (kI g, 1001, .inl (fun j => I (f (j : Int))))) = MW g q lb v (ua a 32 f) b := rfl
set_option maxRecDepth 10000 in
theorem Msa33 (f : Int → Int) : (MW g q lb v a b).set 35 (q 35, .inl (kI g, 1001, .inl (fun j => I (f (j : Int))))) = MW g q lb v (ua a 33 f) b := rfl
set_option maxRecDepth 10000 in
theorem Msa34 (f : Int → Int) : (MW g q lb v a b).set 37 (q 37, .inl (kI g, 51, .inl (fun j => I (f (j : Int))))) = MW g q lb v (ua a 34 f) b := rfl
set_option maxRecDepth 10000 in
theorem Msa35 (f : Int → Int) : (MW g q lb v a b).set 38 (q 38, .inl (kI g, 51, .inl (fun j => I (f (j : Int))))) = MW g q lb v (ua a 35 f) b := rfl
set_option maxRecDepth 10000 in
theorem Msa36 (f : Int → Int) : (MW g q lb v a b).set 39 (q 39, .inl (kI g, 51, .inl (fun j => I (f (j : Int))))) = MW g q lb v (ua a 36 f) b := rfl
set_option maxRecDepth 10000 in
theorem Msa37 (f : Int → Int) : (MW g q lb v a b).set 40 (q 40, .inl (kI g, 1001, .inl (fun j => I (f (j : Int))))) = MW g q lb v (ua a 37 f) b := rfl
set_option maxRecDepth 10000 in
theorem Msa38 (f : Int → Int) : (MW g q lb v a b).set 41 (q 41, .inl (kZ g, 1001, .inl (fun j => I (f (j : Int))))) = MW g q lb v (ua a 38 f) b := rfl
set_option maxRecDepth 10000 in
theorem Msa39 (f : Int → Int) : (MW g q lb v a b).set 42 (q 42, .inl (kI g, 300, .inl (fun j => I (f (j : Int))))) = MW g q lb v (ua a 39 f) b := rfl
set_option maxRecDepth 10000 in
theorem Msa40 (f : Int → Int) : (MW g q lb v a b).set 43 (q 43, .inl (kI g, 202, .inl (fun j => I (f (j : Int))))) = MW g q lb v (ua a 40 f) b := rfl
set_option maxRecDepth 10000 in
theorem Msa41 (f : Int → Int) : (MW g q lb v a b).set 44 (q 44, .inl (kI g, 202, .inl (fun j => I (f (j : Int))))) = MW g q lb v (ua a 41 f) b := rfl
set_option maxRecDepth 10000 in
theorem Msa42 (f : Int → Int) : (MW g q lb v a b).set 45 (q 45, .inl (kI g, 202, .inl (fun j => I (f (j : Int))))) = MW g q lb v (ua a 42 f) b := rfl
set_option maxRecDepth 10000 in
theorem Msa43 (f : Int → Int) : (MW g q lb v a b).set 46 (q 46, .inl (kI g, 42000, .inl (fun j => I (f (j : Int))))) = MW g q lb v (ua a 43 f) b := rfl
set_option maxRecDepth 10000 in
theorem Msa44 (f : Int → Int) : (MW g q lb v a b).set 47 (q 47, .inl (kI g, 300, .inl (fun j => I (f (j : Int))))) = MW g q lb v (ua a 44 f) b := rfl
set_option maxRecDepth 10000 in
theorem Msa45 (f : Int → Int) : (MW g q lb v a b).set 48 (q 48, .inl (kI g, 300, .inl (fun j => I (f (j : Int))))) = MW g q lb v (ua a 45 f) b := rfl
set_option maxRecDepth 10000 in
theorem Msa46 (f : Int → Int) : (MW g q lb v a b).set 49 (q 49, .inl (kI g, 300, .inl (fun j => I (f (j : Int))))) = MW g q lb v (ua a 46 f) b := rfl
set_option maxRecDepth 10000 in
theorem Msa47 (f : Int → Int) : (MW g q lb v a b).set 50 (q 50, .inl (kI g, 42000, .inl (fun j => I (f (j : Int))))) = MW g q lb v (ua a 47 f) b := rfl
set_option maxRecDepth 10000 in
theorem Msa48 (f : Int → Int) : (MW g q lb v a b).set 51 (q 51, .inl (kI g, 1001, .inl (fun j => I (f (j : Int))))) = MW g q lb v (ua a 48 f) b := rfl
set_option maxRecDepth 10000 in
theorem Msa49 (f : Int → Int) : (MW g q lb v a b).set 52 (q 52, .inl (kI g, 1001, .inl (fun j => I (f (j : Int))))) = MW g q lb v (ua a 49 f) b := rfl
set_option maxRecDepth 10000 in
theorem Msa50 (f : Int → Int) : (MW g q lb v a b).set 53 (q 53, .inl (kI g, 1002, .inl (fun j => I (f (j : Int))))) = MW g q lb v (ua a 50 f) b := rfl
set_option maxRecDepth 10000 in
theorem Msa51 (f : Int → Int) : (MW g q lb v a b).set 54 (q 54, .inl (kZ g, 1001, .inl (fun j => I (f (j : Int))))) = MW g q lb v (ua a 51 f) b := rfl
set_option maxRecDepth 10000 in
theorem Msa52 (f : Int → Int) : (MW g q lb v a b).set 55 (q 55, .inl (kZ g, 1001, .inl (fun j => I (f (j : Int))))) = MW g q lb v (ua a 52 f) b := rfl
set_option maxRecDepth 10000 in
theorem Msa53 (f : Int → Int) : (MW g q lb v a b).set 56 (q 56, .inl (kZ g, 1001, .inl (fun j => I (f (j : Int))))) = MW g q lb v (ua a 53 f) b := rfl
set_option maxRecDepth 10000 in
theorem Msa54 (f : Int → Int) : (MW g q lb v a b).set 57 (q 57, .inl (kI g, 1001, .inl (fun j => I (f (j : Int))))) = MW g q lb v (ua a 54 f) b := rfl
set_option maxRecDepth 10000 in
theorem Msa55 (f : Int → Int) : (MW g q lb v a b).set 58 (q 58, .inl (kI g, 1001, .inl (fun j => I (f (j : Int))))) = MW g q lb v (ua a 55 f) b := rfl
set_option maxRecDepth 10000 in
theorem Msa56 (f : Int → Int) : (MW g q lb v a b).set 59 (q 59, .inl (kI g, 20001, .inl (fun j => I (f (j : Int))))) = MW g q lb v (ua a 56 f) b := rfl
set_option maxRecDepth 10000 in
theorem Msa57 (f : Int → Int) : (MW g q lb v a b).set 60 (q 60, .inl (kI g, 20001, .inl (fun j => I (f (j : Int))))) = MW g q lb v (ua a 57 f) b := rfl
set_option maxRecDepth 10000 in
theorem Msa58 (f : Int → Int) : (MW g q lb v a b).set 61 (q 61, .inl (kI g, 120000, .inl (fun j => I (f (j : Int))))) = MW g q lb v (ua a 58 f) b := rfl
set_option maxRecDepth 10000 in
theorem Msa59 (f : Int → Int) : (MW g q lb v a b).set 63 (q 63, .inl (kI g, 24002, .inl (fun j => I (f (j : Int))))) = MW g q lb v (ua a 59 f) b := rfl
set_option maxRecDepth 10000 in
theorem Msa60 (f : Int → Int) : (MW g q lb v a b).set 64 (q 64, .inl (kI g, 24000, .inl (fun j => I (f (j : Int))))) = MW g q lb v (ua a 60 f) b := rfl
set_option maxRecDepth 10000 in
theorem Msa61 (f : Int → Int) : (MW g q lb v a b).set 65 (q 65, .inl (kI g, 20001, .inl (fun j => I (f (j : Int))))) = MW g q lb v (ua a 61 f) b := rfl
set_option maxRecDepth 10000 in
theorem Msa62 (f : Int → Int) : (MW g q lb v a b).set 66 (q 66, .inl (kI g, 20001, .inl (fun j => I (f (j : Int))))) = MW g q lb v (ua a 62 f) b := rfl
set_option maxRecDepth 10000 in
theorem Msa63 (f : Int → Int) : (MW g q lb v a b).set 67 (q 67, .inl (kI g, 20001, .inl (fun j => I (f (j : Int))))) = MW g q lb v (ua a 63 f) b := rfl
set_option maxRecDepth 10000 in
theorem Msa64 (f : Int → Int) : (MW g q lb v a b).set 68 (q 68, .inl (kI g, 20001, .inl (fun j => I (f (j : Int))))) = MW g q lb v (ua a 64 f) b := rfl
set_option maxRecDepth 10000 in
theorem Msa65 (f : Int → Int) : (MW g q lb v a b).set 69 (q 69, .inl (kI g, 40002, .inl (fun j => I (f (j : Int))))) = MW g q lb v (ua a 65 f) b := rfl
set_option maxRecDepth 10000 in
theorem Msa66 (f : Int → Int) : (MW g q lb v a b).set 70 (q 70, .inl (kI g, 40002, .inl (fun j => I (f (j : Int))))) = MW g q lb v (ua a 66 f) b := rfl
set_option maxRecDepth 10000 in
theorem Msa67 (f : Int → Int) : (MW g q lb v a b).set 71 (q 71, .inl (kI g, 1501, .inl (fun j => I (f (j : Int))))) = MW g q lb v (ua a 67 f) b := rfl
set_option maxRecDepth 10000 in
theorem Msa68 (f : Int → Int) : (MW g q lb v a b).set 72 (q 72, .inl (kI g, 1501, .inl (fun j => I (f (j : Int))))) = MW g q lb v (ua a 68 f) b := rfl
set_option maxRecDepth 10000 in
theorem Msa69 (f : Int → Int) : (MW g q lb v a b).set 73 (q 73, .inl (kI g, 65536, .inl (fun j => I (f (j : Int))))) = MW g q lb v (ua a 69 f) b := rfl
set_option maxRecDepth 10000 in
theorem Msa70 (f : Int → Int) : (MW g q lb v a b).set 74 (q 74, .inl (kI g, 40002, .inl (fun j => I (f (j : Int))))) = MW g q lb v (ua a 70 f) b := rfl
set_option maxRecDepth 10000 in
theorem Msa71 (f : Int → Int) : (MW g q lb v a b).set 75 (q 75, .inl (kI g, 1001, .inl (fun j => I (f (j : Int))))) = MW g q lb v (ua a 71 f) b := rfl
set_option maxRecDepth 10000 in
theorem Msa72 (f : Int → Int) : (MW g q lb v a b).set 76 (q 76, .inl (kI g, 64, .inl (fun j => I (f (j : Int))))) = MW g q lb v (ua a 72 f) b := rfl
set_option maxRecDepth 10000 in
theorem Msa73 (f : Int → Int) : (MW g q lb v a b).set 77 (q 77, .inl (kI g, 64, .inl (fun j => I (f (j : Int))))) = MW g q lb v (ua a 73 f) b := rfl
set_option maxRecDepth 10000 in
theorem Msa74 (f : Int → Int) : (MW g q lb v a b).set 78 (q 78, .inl (kI g, 64, .inl (fun j => I (f (j : Int))))) = MW g q lb v (ua a 74 f) b := rfl
set_option maxRecDepth 10000 in
theorem Msa75 (f : Int → Int) : (MW g q lb v a b).set 79 (q 79, .inl (kI g, 372100, .inl (fun j => I (f (j : Int))))) = MW g q lb v (ua a 75 f) b := rfl
set_option maxRecDepth 10000 in
theorem Msa76 (f : Int → Int) : (MW g q lb v a b).set 80 (q 80, .inl (kI g, 372100, .inl (fun j => I (f (j : Int))))) = MW g q lb v (ua a 76 f) b := rfl
set_option maxRecDepth 10000 in
theorem Msa77 (f : Int → Int) : (MW g q lb v a b).set 83 (q 83, .inl (kI g, 30002, .inl (fun j => I (f (j : Int))))) = MW g q lb v (ua a 77 f) b := rfl
set_option maxRecDepth 10000 in
theorem Msa78 (f : Int → Int) : (MW g q lb v a b).set 84 (q 84, .inl (kI g, 30002, .inl (fun j => I (f (j : Int))))) = MW g q lb v (ua a 78 f) b := rfl
set_option maxRecDepth 10000 in
theorem Msa79 (f : Int → Int) : (MW g q lb v a b).set 85 (q 85, .inl (kI g, 30002, .inl (fun j => I (f (j : Int))))) = MW g q lb v (ua a 79 f) b := rfl
set_option maxRecDepth 10000 in
theorem Msa80 (f : Int → Int) : (MW g q lb v a b).set 86 (q 86, .inl (kI g, 30002, .inl (fun j => I (f (j : Int))))) = MW g q lb v (ua a 80 f) b := rfl
set_option maxRecDepth 10000 in
theorem Msa81 (f : Int → Int) : (MW g q lb v a b).set 87 (q 87, .inl (kI g, 30002, .inl (fun j => I (f (j : Int))))) = MW g q lb v (ua a 81 f) b := rfl
set_option maxRecDepth 10000 in
theorem Msa82 (f : Int → Int) : (MW g q lb v a b).set 88 (q 88, .inl (kI g, 30002, .inl (fun j => I (f (j : Int))))) = MW g q lb v (ua a 82 f) b := rfl
set_option maxRecDepth 10000 in
theorem Msa83 (f : Int → Int) : (MW g q lb v a b).set 89 (q 89, .inl (kI g, 30002, .inl (fun j => I (f (j : Int))))) = MW g q lb v (ua a 83 f) b := rfl
set_option maxRecDepth 10000 in
theorem Msa84 (f : Int → Int) : (MW g q lb v a b).set 92 (q 92, .inl (kI g, 1501, .inl (fun j => I (f (j : Int))))) = MW g q lb v (ua a 84 f) b := rfl
set_option maxRecDepth 10000 in
theorem Msa85 (f : Int → Int) : (MW g q lb v a b).set 93 (q 93, .inl (kI g, 3800, .inl (fun j => I (f (j : Int))))) = MW g q lb v (ua a 85 f) b := rfl
set_option maxRecDepth 10000 in
theorem Msa86 (f : Int → Int) : (MW g q lb v a b).set 94 (q 94, .inl (kI g, 60000, .inl (fun j => I (f (j : Int))))) = MW g q lb v (ua a 86 f) b := rfl
set_option maxRecDepth 10000 in
theorem Msa87 (f : Int → Int) : (MW g q lb v a b).set 95 (q 95, .inl (kI g, 60000, .inl (fun j => I (f (j : Int))))) = MW g q lb v (ua a 87 f) b := rfl
set_option maxRecDepth 10000 in
theorem Msa88 (f : Int → Int) : (MW g q lb v a b).set 96 (q 96, .inl (kI g, 60000, .inl (fun j => I (f (j : Int))))) = MW g q lb v (ua a 88 f) b := rfl
set_option maxRecDepth 10000 in
theorem Msa89 (f : Int → Int) : (MW g q lb v a b).set 97 (q 97, .inl (kI g, 60000, .inl (fun j => I (f (j : Int))))) = MW g q lb v (ua a 89 f) b := rfl
set_option maxRecDepth 10000 in
theorem Msa90 (f : Int → Int) : (MW g q lb v a b).set 98 (q 98, .inl (kI g, 60000, .inl (fun j => I (f (j : Int))))) = MW g q lb v (ua a 90 f) b := rfl
set_option maxRecDepth 10000 in
theorem Msa91 (f : Int → Int) : (MW g q lb v a b).set 99 (q 99, .inl (kI g, 120000, .inl (fun j => I (f (j : Int))))) = MW g q lb v (ua a 91 f) b := rfl
set_option maxRecDepth 10000 in
theorem Msa92 (f : Int → Int) : (MW g q lb v a b).set 100 (q 100, .inl (kI g, 101, .inl (fun j => I (f (j : Int))))) = MW g q lb v (ua a 92 f) b := rfl
set_option maxRecDepth 10000 in
theorem Msa93 (f : Int → Int) : (MW g q lb v a b).set 101 (q 101, .inl (kI g, 101, .inl (fun j => I (f (j : Int))))) = MW g q lb v (ua a 93 f) b := rfl
set_option maxRecDepth 10000 in
theorem Msa94 (f : Int → Int) : (MW g q lb v a b).set 102 (q 102, .inl (kI g, 1501, .inl (fun j => I (f (j : Int))))) = MW g q lb v (ua a 94 f) b := rfl
set_option maxRecDepth 10000 in
theorem Msa95 (f : Int → Int) : (MW g q lb v a b).set 104 (q 104, .inl (kI g, 1501, .inl (fun j => I (f (j : Int))))) = MW g q lb v (ua a 95 f) b := rfl
set_option maxRecDepth 10000 in
theorem Msa96 (f : Int → Int) : (MW g q lb v a b).set 105 (q 105, .inl (kZ g, 1501, .inl (fun j => I (f (j : Int))))) = MW g q lb v (ua a 96 f) b := rfl
set_option maxRecDepth 10000 in
theorem Msa97 (f : Int → Int) : (MW g q lb v a b).set 106 (q 106, .inl (kI g, 1501, .inl (fun j => I (f (j : Int))))) = MW g q lb v (ua a 97 f) b := rfl
set_option maxRecDepth 10000 in
theorem Msa98 (f : Int → Int) : (MW g q lb v a b).set 107 (q 107, .inl (kZ g, 1501, .inl (fun j => I (f (j : Int))))) = MW g q lb v (ua a 98 f) b := rfl
set_option maxRecDepth 10000 in
theorem Msa99 (f : Int → Int) : (MW g q lb v a b).set 108 (q 108, .inl (kI g, 1501, .inl (fun j => I (f (j : Int))))) = MW g q lb v (ua a 99 f) b := rfl
set_option maxRecDepth 10000 in
theorem Msa100 (f : Int → Int) : (MW g q lb v a b).set 109 (q 109, .inl (kI g, 1501, .inl (fun j => I (f (j : Int))))) = MW g q lb v (ua a 100 f) b := rfl
set_option maxRecDepth 10000 in
theorem Msa101 (f : Int → Int) : (MW g q lb v a b).set 110 (q 110, .inl (kI g, 460000, .inl (fun j => I (f (j : Int))))) = MW g q lb v (ua a 101 f) b := rfl
set_option maxRecDepth 10000 in
theorem Msa102 (f : Int → Int) : (MW g q lb v a b).set 111 (q 111, .inl (kI g, 1300, .inl (fun j => I (f (j : Int))))) = MW g q lb v (ua a 102 f) b := rfl
set_option maxRecDepth 10000 in
theorem Msa103 (f : Int → Int) : (MW g q lb v a b).set 112 (q 112, .inl (kI g, 64, .inl (fun j => I (f (j : Int))))) = MW g q lb v (ua a 103 f) b := rfl
set_option maxRecDepth 10000 in
theorem Msa104 (f : Int → Int) : (MW g q lb v a b).set 113 (q 113, .inl (kI g, 1001, .inl (fun j => I (f (j : Int))))) = MW g q lb v (ua a 104 f) b := rfl
set_option maxRecDepth 10000 in
theorem Msa105 (f : Int → Int) : (MW g q lb v a b).set 114 (q 114, .inl (kI g, 1001, .inl (fun j => I (f (j : Int))))) = MW g q lb v (ua a 105 f) b := rfl
set_option maxRecDepth 10000 in
theorem Msa106 (f : Int → Int) : (MW g q lb v a b).set 115 (q 115, .inl (kI g, 40002, .inl (fun j => I (f (j : Int))))) = MW g q lb v (ua a 106 f) b := rfl
set_option maxRecDepth 10000 in
theorem Msl0 (f : Int → Int64) : (MW g q lb v a b).set 31 (q 31, .inl (kJ g, 36024, .inr (.inl (fun j => f (j : Int))))) = MW g q lb v a (ub b 0 f) := rfl
set_option maxRecDepth 10000 in
theorem Msl1 (f : Int → Int64) : (MW g q lb v a b).set 36 (q 36, .inl (kJ g, 16016, .inr (.inl (fun j => f (j : Int))))) = MW g q lb v a (ub b 1 f) := rfl
set_option maxRecDepth 10000 in
theorem Msl2 (f : Int → Int64) : (MW g q lb v a b).set 62 (q 62, .inl (kJ g, 20001, .inr (.inl (fun j => f (j : Int))))) = MW g q lb v a (ub b 2 f) := rfl
set_option maxRecDepth 10000 in
theorem Msl3 (f : Int → Int64) : (MW g q lb v a b).set 81 (q 81, .inl (kJ g, 6200, .inr (.inl (fun j => f (j : Int))))) = MW g q lb v a (ub b 3 f) := rfl
set_option maxRecDepth 10000 in
theorem Msl4 (f : Int → Int64) : (MW g q lb v a b).set 82 (q 82, .inl (kJ g, 6200, .inr (.inl (fun j => f (j : Int))))) = MW g q lb v a (ub b 4 f) := rfl
set_option maxRecDepth 10000 in
theorem Msl5 (f : Int → Int64) : (MW g q lb v a b).set 90 (q 90, .inl (kJ g, 30002, .inr (.inl (fun j => f (j : Int))))) = MW g q lb v a (ub b 5 f) := rfl
set_option maxRecDepth 10000 in
theorem Msl6 (f : Int → Int64) : (MW g q lb v a b).set 91 (q 91, .inl (kJ g, 30002, .inr (.inl (fun j => f (j : Int))))) = MW g q lb v a (ub b 6 f) := rfl
set_option maxRecDepth 10000 in
theorem Msl7 (f : Int → Int64) : (MW g q lb v a b).set 103 (q 103, .inl (kJ g, 36024, .inr (.inl (fun j => f (j : Int))))) = MW g q lb v a (ub b 7 f) := rfl
end STM
