-- pure: steps and piles
/-- how many of the first n steps are saved -/
def svN (f : Int → Int) : Nat → Int
  | 0 => 0
  | n + 1 => svN f n + (if 65536 ≤ f (n : Int) then 1 else 0)
def sv (f : Int → Int) (n : Int) : Int := svN f n.toNat
theorem svN_x {f g : Int → Int} : ∀ n : Nat, (∀ e : Int, 0 ≤ e → e < (n : Int) → f e = g e) → svN f n = svN g n
  | 0, _ => rfl
  | n + 1, h => by
    show svN f n + (if 65536 ≤ f (n : Int) then 1 else 0) = svN g n + (if 65536 ≤ g (n : Int) then 1 else 0)
    rw [svN_x n (fun e a b => h e a (by omega)), h n (by omega) (by omega)]
theorem sv_x {f g : Int → Int} {n : Int} (h : ∀ e : Int, 0 ≤ e → e < n → f e = g e) : sv f n = sv g n := svN_x n.toNat (fun e a b => h e a (by omega))
theorem sv_s (f : Int → Int) {n : Int} (h : 0 ≤ n) : sv f (n + 1) = sv f n + (if 65536 ≤ f n then 1 else 0) := by
  unfold sv
  obtain ⟨k, rfl⟩ := Int.eq_ofNat_of_zero_le h
  rw [show ((k : Int) + 1).toNat = k + 1 from by omega, show ((k : Int)).toNat = k from by omega]
  rfl
theorem sv_t (f : Int → Int) {e x n : Int} (h : n ≤ e) : sv (st f e x) n = sv f n := sv_x (fun j _ b => st_n _ _ (show j ≠ e from by omega))
theorem sv_u (f : Int → Int) {n : Int} (h : 0 ≤ n) : (65536 ≤ f n ∧ sv f (n + 1) = sv f n + 1) ∨ (f n < 65536 ∧ sv f (n + 1) = sv f n) := by
  rw [sv_s f h]
  by_cases z : 65536 ≤ f n
  · rw [if_pos z]; exact Or.inl ⟨z, rfl⟩
  · rw [if_neg z]; exact Or.inr ⟨by omega, by omega⟩
/-- the steps of a proof that is read: earlier statements, or rows that were saved -/
def J_sp (n cnt sc lc : Int) (stp lst : Int → Int) : Prop := (∀ m : Int, 0 ≤ m → m < cnt → (stp m < 0 ∧ -1 - stp m < sv stp m) ∨ (0 ≤ stp m ∧ stp m % 65536 < n ∧ stp m < 131072)) ∧ sc = sv stp cnt ∧ ∀ k : Int, 0 ≤ k → k < lc → lst k < n
theorem J_sp0 (n : Int) (stp lst : Int → Int) : J_sp n 0 0 0 stp lst := ⟨fun m a b => by omega, rfl, fun k a b => by omega⟩
theorem J_sp_a {n cnt sc lc x : Int} {stp lst : Int → Int} (h : J_sp n cnt sc lc stp lst) (c0 : 0 ≤ cnt) (hx : (x < 0 ∧ -1 - x < sc) ∨ (0 ≤ x ∧ x < n ∧ n ≤ 1500)) : J_sp n (cnt + 1) sc lc (st stp cnt x) lst := by
  refine ⟨fun m m0 m1 => ?_, ?_, h.2.2⟩
  · rw [sv_t _ (show m ≤ cnt from by omega)]
    by_cases z : m = cnt
    · rw [z, st_s, ← h.2.1]
      rcases hx with q | q
      · exact Or.inl q
      · exact Or.inr ⟨q.1, by omega, by omega⟩
    · rw [st_n _ _ z]; exact h.1 m m0 (by omega)
  · have := sv_u (st stp cnt x) c0
    rw [st_s, sv_t _ (Int.le_refl cnt), ← h.2.1] at this
    omega
theorem J_sp_l {n cnt sc lc x : Int} {stp lst : Int → Int} (h : J_sp n cnt sc lc stp lst) (hx : x < n) : J_sp n cnt sc (lc + 1) stp (st lst lc x) := ⟨h.1, h.2.1, fun k k0 k1 => by
  by_cases z : k = lc
  · rw [z, st_s]; exact hx
  · rw [st_n _ _ z]; exact h.2.2 k k0 (by omega)⟩
theorem J_sp_v {n cnt sc lc x : Int} {stp lst : Int → Int} (h : J_sp n cnt sc lc stp lst) (c0 : 0 < cnt) (h0 : 0 ≤ stp (cnt - 1)) (h1 : stp (cnt - 1) < 65536) (hx : x = stp (cnt - 1) + 65536) : J_sp n cnt (sc + 1) lc (st stp (cnt - 1) x) lst := by
  have e : ∀ m : Int, m ≤ cnt - 1 → sv (st stp (cnt - 1) x) m = sv stp m := fun m hm => sv_t _ hm
  refine ⟨fun m m0 m1 => ?_, ?_, h.2.2⟩
  · rw [e m (by omega)]
    by_cases z : m = cnt - 1
    · rw [z, st_s, hx]
      have := h.1 (cnt - 1) (by omega) (by omega)
      exact Or.inr ⟨by omega, by omega, by omega⟩
    · rw [st_n _ _ z]; exact h.1 m m0 m1
  · have a := sv_u (st stp (cnt - 1) x) (n := cnt - 1) (by omega)
    have b := sv_u stp (n := cnt - 1) (by omega)
    rw [st_s, e _ (Int.le_refl _)] at a
    rw [show cnt - 1 + 1 = cnt from by omega] at a b
    rw [h.2.1]
    omega
/-- sums -/
def smN (g : Int → Int) : Nat → Int
  | 0 => 0
  | n + 1 => smN g n + g (n : Int)
def sm (g : Int → Int) (n : Int) : Int := smN g n.toNat
theorem sm_0 (g : Int → Int) : sm g 0 = 0 := rfl
theorem sm_s (g : Int → Int) {n : Int} (h : 0 ≤ n) : sm g (n + 1) = sm g n + g n := by
  unfold sm
  obtain ⟨k, rfl⟩ := Int.eq_ofNat_of_zero_le h
  rw [show ((k : Int) + 1).toNat = k + 1 from by omega, show ((k : Int)).toNat = k from by omega]
  rfl
theorem smN_x {f g : Int → Int} : ∀ n : Nat, (∀ e : Int, 0 ≤ e → e < (n : Int) → f e = g e) → smN f n = smN g n
  | 0, _ => rfl
  | n + 1, h => by
    show smN f n + f (n : Int) = smN g n + g (n : Int)
    rw [smN_x n (fun e a b => h e a (by omega)), h n (by omega) (by omega)]
theorem sm_x {f g : Int → Int} {n : Int} (h : ∀ e : Int, 0 ≤ e → e < n → f e = g e) : sm f n = sm g n := smN_x n.toNat (fun e a b => h e a (by omega))
theorem sm_a (g : Int → Int) {n : Int} (hn : 0 ≤ n) : ∀ d : Nat, sm g (n + (d : Int)) = sm g n + sm (fun h => g (n + h)) (d : Int)
  | 0 => by
    rw [show n + ((0 : Nat) : Int) = n from by omega]
    show sm g n = sm g n + 0
    omega
  | d + 1 => by
    rw [show n + ((d + 1 : Nat) : Int) = n + (d : Int) + 1 from by omega, sm_s g (show 0 ≤ n + (d : Int) from by omega), sm_a g hn d, show ((d + 1 : Nat) : Int) = (d : Int) + 1 from by omega, sm_s (fun h => g (n + h)) (show (0 : Int) ≤ (d : Int) from by omega)]
    omega
theorem sm_at (g : Int → Int) {n d : Int} (hn : 0 ≤ n) (hd : 0 ≤ d) : sm g (n + d) = sm g n + sm (fun h => g (n + h)) d := by
  obtain ⟨k, rfl⟩ := Int.eq_ofNat_of_zero_le hd
  exact sm_a g hn k
theorem smN_0 {g : Int → Int} : ∀ n : Nat, (∀ e : Int, 0 ≤ e → e < (n : Int) → 0 ≤ g e) → 0 ≤ smN g n
  | 0, _ => Int.le_refl 0
  | n + 1, h => by
    have a := smN_0 n (fun e a b => h e a (by omega))
    have b := h n (by omega) (by omega)
    show 0 ≤ smN g n + g (n : Int)
    omega
theorem sm_n {g : Int → Int} {n : Int} (h : ∀ e : Int, 0 ≤ e → e < n → 0 ≤ g e) : 0 ≤ sm g n := smN_0 n.toNat (fun e a b => h e a (by omega))
theorem sm_m {g : Int → Int} {n : Int} {m : Int} (h : ∀ e : Int, 0 ≤ e → e < m → 0 ≤ g e) (n0 : 0 ≤ n) (nm : n ≤ m) : sm g n ≤ sm g m := by
  have := sm_at g n0 (show 0 ≤ m - n from by omega)
  rw [show n + (m - n) = m from by omega] at this
  have := sm_n (g := fun h => g (n + h)) (n := m - n) (fun e a b => h _ (by omega) (by omega))
  omega
/-- what a row on the pile takes of its low part -/
def j_w (us sz : Int → Int) (r : Int) : Int := if us r < 2 then sz r else 0
theorem j_w_u (us sz : Int → Int) (r : Int) : (us r < 2 ∧ j_w us sz r = sz r) ∨ (2 ≤ us r ∧ j_w us sz r = 0) := by
  unfold j_w
  by_cases z : us r < 2
  · rw [if_pos z]; exact Or.inl ⟨z, rfl⟩
  · rw [if_neg z]; exact Or.inr ⟨by omega, rfl⟩
/-- rows, each in the low part or in the high one, and all that was put there are symbols -/
def J_dt (low high rows : Int) (dt at_ sz : Int → Int) : Prop := ∃ hw : Int, low ≤ hw ∧ hw ≤ 42000 ∧ (∀ j : Int, (0 ≤ j ∧ j < hw) ∨ (high ≤ j ∧ j < 42000) → dt j < 1000) ∧ ∀ r : Int, 0 ≤ r → r < rows → 0 ≤ sz r ∧ (at_ r + sz r ≤ hw ∨ (high ≤ at_ r ∧ at_ r + sz r ≤ 42000))
theorem J_dt0 (dt at_ sz : Int → Int) : J_dt 0 42000 0 dt at_ sz := ⟨0, by omega, by omega, fun j h => by omega, fun r a b => by omega⟩
theorem J_dt_low {low low' high rows : Int} {dt at_ sz : Int → Int} (h : J_dt low high rows dt at_ sz) (l : low' ≤ low) : J_dt low' high rows dt at_ sz := by
  obtain ⟨hw, a, b, c, d⟩ := h
  exact ⟨hw, by omega, b, c, d⟩
theorem J_dt_b {low high rows r : Int} {dt at_ sz : Int → Int} (h : J_dt low high rows dt at_ sz) (r0 : 0 ≤ r) (r1 : r < rows) : 0 ≤ sz r ∧ at_ r + sz r ≤ 42000 := by
  obtain ⟨hw, a, b, c, d⟩ := h
  have := d r r0 r1
  omega
theorem J_dt_d {low high rows r : Int} {dt at_ sz : Int → Int} (h : J_dt low high rows dt at_ sz) (r0 : 0 ≤ r) (r1 : r < rows) (p0 : ∀ j, 0 ≤ at_ j) : ∀ j : Int, at_ r ≤ j → j < at_ r + sz r → dt j < 1000 := fun j j0 j1 => by
  obtain ⟨hw, a, b, c, d⟩ := h
  have := d r r0 r1
  have := p0 r
  exact c j (by omega)
/-- a row is put into the low part -/
theorem J_dt_l {low high rows n : Int} {dt at_ sz bt : Int → Int} (h : J_dt low high rows dt at_ sz) (n0 : 0 ≤ n) (l0 : 0 ≤ low) (hl : low + n ≤ high) (hh : high ≤ 42000) (bt0 : ∀ j : Int, 0 ≤ j → j < n → bt j < 1000) : J_dt (low + n) high (rows + 1) (c_py bt dt 0 low n) (st at_ rows low) (st sz rows n) := by
  obtain ⟨hw, a, b, c, d⟩ := h
  have go : ∀ j : Int, (0 ≤ j ∧ j < hw) ∨ (high ≤ j ∧ j < 42000) ∨ (low ≤ j ∧ j < low + n) → c_py bt dt 0 low n j < 1000 := fun j hj => by
    unfold c_py
    by_cases z : low ≤ j ∧ j < low + n
    · rw [if_pos z]; exact bt0 _ (by omega) (by omega)
    · rw [if_neg z]; exact c j (by omega)
  have rw_ : ∀ H : Int, hw ≤ H → low + n ≤ H → ∀ r : Int, 0 ≤ r → r < rows + 1 → 0 ≤ st sz rows n r ∧ (st at_ rows low r + st sz rows n r ≤ H ∨ (high ≤ st at_ rows low r ∧ st at_ rows low r + st sz rows n r ≤ 42000)) := fun H h1 h2 r r0 r1 => by
    by_cases z : r = rows
    · rw [z, st_s, st_s]; omega
    · rw [st_n _ _ z, st_n _ _ z]; have := d r r0 (by omega); omega
  by_cases z : hw ≤ low + n
  · exact ⟨low + n, Int.le_refl _, by omega, fun j hj => go j (by omega), rw_ _ z (Int.le_refl _)⟩
  · exact ⟨hw, by omega, b, fun j hj => go j (by omega), rw_ _ (Int.le_refl _) (by omega)⟩
/-- a row is put into the high part -/
theorem J_dt_h {low high rows n y : Int} {dt at_ sz bt : Int → Int} (h : J_dt low high rows dt at_ sz) (n0 : 0 ≤ n) (l0 : 0 ≤ low) (hl : low + n ≤ high) (hh : high ≤ 42000) (bt0 : ∀ j : Int, 0 ≤ j → j < n → bt j < 1000) : J_dt low (high - n) (rows + 1) (c_py bt dt 0 (high - n) n) (st (st at_ rows y) rows (high - n)) (st sz rows n) := by
  obtain ⟨hw, a, b, c, d⟩ := h
  refine ⟨hw, a, b, fun j hj => ?_, fun r r0 r1 => ?_⟩
  · unfold c_py
    by_cases z : high - n ≤ j ∧ j < high - n + n
    · rw [if_pos z]; exact bt0 _ (by omega) (by omega)
    · rw [if_neg z]; exact c j (by omega)
  · by_cases z : r = rows
    · rw [z, st_s, st_s]; omega
    · rw [st_n _ _ z, st_n _ _ z, st_n _ _ z]; have := d r r0 (by omega); omega
/-- what variables become stands in the pile -/
def J_bp (bA bS : Int → Int) : Prop := ∀ v : Int, bA v + bS v ≤ 42000
theorem J_bp_s {bA bS : Int → Int} {v x y : Int} (h : J_bp bA bS) (hx : x + y ≤ 42000) : J_bp (st bA v x) (st bS v y) := fun w => by
  by_cases z : w = v
  · rw [z, st_s, st_s]; exact hx
  · rw [st_n _ _ z, st_n _ _ z]; exact h w
def J_bd (v : Int) (dt bA bS : Int → Int) : Prop := ∀ j : Int, bA v ≤ j → j < bA v + bS v → dt j < 1000
theorem J_bd_s {v w x y : Int} {dt bA bS : Int → Int} (h : w ≠ v → J_bd w dt bA bS) (hn : w = v → ∀ j : Int, x ≤ j → j < x + y → dt j < 1000) : J_bd w dt (st bA v x) (st bS v y) := fun j j0 j1 => by
  by_cases z : w = v
  · rw [z, st_s] at j0; rw [z, st_s, st_s] at j1; exact hn z j j0 j1
  · rw [st_n _ _ z] at j0; rw [st_n _ _ z, st_n _ _ z] at j1; exact h z j j0 j1
/-- the variables of the first u mandatory hypotheses of i have become something -/
def J_bn (i u : Int) (kd a tx fa hy dt bA bS : Int → Int) : Prop := ∀ k : Int, 0 ≤ k → k < u → kd (hy (fa i + k)) = 0 → J_bd (tx (a (hy (fa i + k)) + 1)) dt bA bS
theorem J_bn_e {i u : Int} {kd a tx fa hy dt bA bS : Int → Int} (h : J_bn i u kd a tx fa hy dt bA bS) (z : kd (hy (fa i + u)) ≠ 0) : J_bn i (u + 1) kd a tx fa hy dt bA bS := fun k k0 k1 k2 => by
  by_cases y : k = u
  · rw [y] at k2; exact absurd k2 z
  · exact h k k0 (by omega) k2
theorem J_bn_s {i u v x y : Int} {kd a tx fa hy dt bA bS : Int → Int} (h : J_bn i u kd a tx fa hy dt bA bS) (hv : tx (a (hy (fa i + u)) + 1) = v) (hn : ∀ j : Int, x ≤ j → j < x + y → dt j < 1000) : J_bn i (u + 1) kd a tx fa hy dt (st bA v x) (st bS v y) := fun k k0 k1 k2 =>
  J_bd_s (fun z => by
    by_cases q : k = u
    · rw [q] at z; exact absurd hv z
    · exact h k k0 (by omega) k2) (fun _ => hn)
theorem J_bn_v {i v : Int} {kd a tx fa fs hy dt bA bS : Int → Int} (h : J_bn i (fs i) kd a tx fa hy dt bA bS) (hv : J_vf i v kd a tx fa fs hy) : J_bd v dt bA bS := by
  obtain ⟨k, k0, k1, k2, k3⟩ := hv
  have := h k k0 k1 k2
  rw [k3] at this; exact this
/-- the rows of a proof so far, from ru on -/
def J_rb (n ru rows : Int) (kd fs rs ca ch : Int → Int) : Prop := ∀ r : Int, ru ≤ r → r < ru + rows → rs r < n ∧ ca (r + 1) = ca r + (if 2 ≤ kd (rs r) then fs (rs r) else 0) ∧ ∀ c : Int, ca r ≤ c → c < ca (r + 1) → ch c < r - ru
theorem J_rb0 (n ru : Int) (kd fs rs ca ch : Int → Int) : J_rb n ru 0 kd fs rs ca ch := fun r a b => by omega
theorem J_rb_m {n ru rows : Int} {kd fs rs ca ch : Int → Int} (h : J_rb n ru rows kd fs rs ca ch) (f0 : ∀ j, 0 ≤ fs j) : ∀ d : Nat, ∀ r : Int, ru ≤ r → r + (d : Int) ≤ ru + rows → ca r ≤ ca (r + (d : Int))
  | 0, r, _, _ => by rw [show r + ((0 : Nat) : Int) = r from by omega]; exact Int.le_refl _
  | d + 1, r, r0, r1 => by
    have a := J_rb_m h f0 d r r0 (by omega)
    have b := (h (r + (d : Int)) (by omega) (by omega)).2.1
    rw [show r + ((d + 1 : Nat) : Int) = r + (d : Int) + 1 from by omega]
    have c := f0 (rs (r + (d : Int)))
    by_cases z : 2 ≤ kd (rs (r + (d : Int)))
    · rw [if_pos z] at b; omega
    · rw [if_neg z] at b; omega
theorem J_rb_le {n ru rows : Int} {kd fs rs ca ch : Int → Int} (h : J_rb n ru rows kd fs rs ca ch) (f0 : ∀ j, 0 ≤ fs j) {r s : Int} (r0 : ru ≤ r) (rs' : r ≤ s) (s1 : s ≤ ru + rows) : ca r ≤ ca s := by
  have := J_rb_m h f0 (s - r).toNat r r0 (by omega)
  rw [show r + ((s - r).toNat : Int) = s from by omega] at this
  exact this
theorem J_rb_a {n ru rows s t : Int} {kd fs rs ca ch : Int → Int} (h : J_rb n ru rows kd fs rs ca ch) (f0 : ∀ j, 0 ≤ fs j) (r0 : 0 ≤ rows) (hs : s < n) (ht : t = if 2 ≤ kd s then fs s else 0) (hc : ∀ k : Int, 0 ≤ k → k < t → ch (ca (ru + rows) + k) < rows) : J_rb n ru (rows + 1) kd fs (st rs (ru + rows) s) (st ca (ru + rows + 1) (ca (ru + rows) + t)) ch := fun r a b => by
  by_cases z : r = ru + rows
  · rw [z, st_s, st_s, st_n _ _ (show ru + rows ≠ ru + rows + 1 from by omega), ← ht]
    refine ⟨hs, rfl, fun c c0 c1 => ?_⟩
    have := hc (c - ca (ru + rows)) (by omega) (by omega)
    rw [show ca (ru + rows) + (c - ca (ru + rows)) = c from by omega] at this
    omega
  · rw [st_n _ _ z, st_n _ _ (show r + 1 ≠ ru + rows + 1 from by omega), st_n _ _ (show r ≠ ru + rows + 1 from by omega)]
    exact h r a (by omega)
/-- children that are written behind those of the rows so far -/
theorem J_rb_c {n ru rows e x : Int} {kd fs rs ca ch : Int → Int} (h : J_rb n ru rows kd fs rs ca ch) (f0 : ∀ j, 0 ≤ fs j) (he : ca (ru + rows) ≤ e) : J_rb n ru rows kd fs rs ca (st ch e x) := fun r a b => by
  obtain ⟨h1, h2, h3⟩ := h r a b
  refine ⟨h1, h2, fun c c0 c1 => ?_⟩
  have := J_rb_le h f0 (r := r + 1) (s := ru + rows) (by omega) (by omega) (Int.le_refl _)
  rw [st_n _ _ (show c ≠ e from by omega)]; exact h3 c c0 c1
/-- the pile: its rows have been made; what stands in the low part -/
def J_pl (low sy rows n : Int) (us sz pr : Int → Int) : Prop := (∀ p : Int, 0 ≤ p → p < n → pr p < rows) ∧ low = sm (fun p => j_w us sz (pr p)) n ∧ sm (fun p => sz (pr p)) n ≤ sy
theorem J_pl0 (us sz pr : Int → Int) : J_pl 0 0 0 0 us sz pr := ⟨fun p a b => by omega, rfl, Int.le_refl 0⟩
/-- rows are taken off -/
theorem J_pl_t {low sy rows n t : Int} {us sz pr : Int → Int} (h : J_pl low sy rows n us sz pr) (t0 : 0 ≤ t) (tn : t ≤ n) : J_pl (low - sm (fun k => j_w us sz (pr (n - t + k))) t) (sy - sm (fun k => sz (pr (n - t + k))) t) rows (n - t) us sz pr := by
  have a := sm_at (fun p => j_w us sz (pr p)) (n := n - t) (by omega) t0
  have b := sm_at (fun p => sz (pr p)) (n := n - t) (by omega) t0
  rw [show n - t + t = n from by omega] at a b
  refine ⟨fun p p0 p1 => h.1 p p0 (by omega), ?_, ?_⟩
  · rw [h.2.1, a]; omega
  · have := h.2.2; rw [b] at this; omega
/-- a row is made -/
theorem J_pl_n {low sy rows n x y : Int} {us sz pr : Int → Int} (h : J_pl low sy rows n us sz pr) : J_pl low sy (rows + 1) n (st us rows x) (st sz rows y) pr := by
  have e : ∀ p : Int, 0 ≤ p → p < n → st us rows x (pr p) = us (pr p) ∧ st sz rows y (pr p) = sz (pr p) := fun p p0 p1 => by
    have := h.1 p p0 p1
    rw [st_n _ _ (show pr p ≠ rows from by omega), st_n _ _ (show pr p ≠ rows from by omega)]; exact ⟨rfl, rfl⟩
  refine ⟨fun p p0 p1 => by have := h.1 p p0 p1; omega, ?_, ?_⟩
  · rw [h.2.1]
    refine sm_x (fun p p0 p1 => ?_)
    show j_w us sz (pr p) = j_w (st us rows x) (st sz rows y) (pr p)
    unfold j_w
    rw [(e p p0 p1).1, (e p p0 p1).2]
  · have := h.2.2
    rw [sm_x (g := fun p => sz (pr p)) (fun p p0 p1 => (e p p0 p1).2)]; exact this
/-- a row comes on top -/
theorem J_pl_p {low sy rows n r : Int} {us sz pr : Int → Int} (h : J_pl low sy rows n us sz pr) (n0 : 0 ≤ n) (hr : r < rows) : J_pl (low + j_w us sz r) (sy + sz r) rows (n + 1) us sz (st pr n r) := by
  refine ⟨fun p p0 p1 => ?_, ?_, ?_⟩
  · by_cases z : p = n
    · rw [z, st_s]; exact hr
    · rw [st_n _ _ z]; exact h.1 p p0 (by omega)
  · rw [sm_s _ n0, st_s, h.2.1]
    rw [sm_x (f := fun p => j_w us sz (st pr n r p)) (g := fun p => j_w us sz (pr p)) (fun p p0 p1 => by show j_w us sz (st pr n r p) = j_w us sz (pr p); rw [st_n _ _ (show p ≠ n from by omega)])]
  · rw [sm_s _ n0, st_s]
    rw [sm_x (f := fun p => sz (st pr n r p)) (g := fun p => sz (pr p)) (fun p p0 p1 => by show sz (st pr n r p) = sz (pr p); rw [st_n _ _ (show p ≠ n from by omega)])]
    have := h.2.2; omega
/-- saved rows -/
def J_sv (rows c : Int) (us sr : Int → Int) : Prop := ∀ k : Int, 0 ≤ k → k < c → sr k < rows ∧ 2 ≤ us (sr k)
theorem J_sv0 (us sr : Int → Int) : J_sv 0 0 us sr := fun k a b => by omega
theorem J_sv_n {rows c x : Int} {us sr : Int → Int} (h : J_sv rows c us sr) : J_sv (rows + 1) c (st us rows x) sr := fun k a b => by
  have := h k a b
  rw [st_n _ _ (show sr k ≠ rows from by omega)]; omega
theorem J_sv_a {rows c r : Int} {us sr : Int → Int} (h : J_sv rows c us sr) (r1 : r < rows) (r2 : 2 ≤ us r) : J_sv rows (c + 1) us (st sr c r) := fun k a b => by
  by_cases z : k = c
  · rw [z, st_s]; exact ⟨r1, r2⟩
  · rw [st_n _ _ z]; exact h k a (by omega)
