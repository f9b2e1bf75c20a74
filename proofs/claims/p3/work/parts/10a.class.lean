-- pure: the class's table of names
def c_bk (L A : Int → Int) (n : Int) : Int := h_b L (A n) (A (n + 1) - A n)
def J_ht (nm : Int) (L A N H : Int → Int) : Prop :=
  (∀ b : Int, 0 ≤ b → b < 4096 → 0 ≤ H b ∧ H b ≤ nm ∧ (H b = 0 ∨ c_bk L A (H b - 1) = b) ∧ ∀ k : Int, H b ≤ k → k < nm → c_bk L A k ≠ b) ∧
  (∀ n : Int, 0 ≤ n → n < nm → 0 ≤ N n ∧ N n ≤ n ∧ (N n = 0 ∨ c_bk L A (N n - 1) = c_bk L A n) ∧ (∀ k : Int, N n ≤ k → k < n → c_bk L A k ≠ c_bk L A n) ∧ A n ≤ A (n + 1) ∧ 0 ≤ c_bk L A n ∧ c_bk L A n < 4096)
theorem J_ht_m {nm : Int} {L A N H : Int → Int} (h : J_ht nm L A N H) {n : Int} (h0 : 0 ≤ n) : ∀ d : Nat, n + (d : Int) ≤ nm → A n ≤ A (n + (d : Int))
  | 0, _ => by rw [show n + ((0 : Nat) : Int) = n from by omega]; exact Int.le_refl _
  | d + 1, hd => by
    have h1 := J_ht_m h h0 d (by omega)
    have h2 := (h.2 (n + (d : Int)) (by omega) (by omega)).2.2.2.2.1
    rw [show n + ((d + 1 : Nat) : Int) = n + (d : Int) + 1 from by omega]
    omega
theorem J_ht_mono {nm : Int} {L A N H : Int → Int} (h : J_ht nm L A N H) {n m : Int} (h0 : 0 ≤ n) (h1 : n ≤ m) (h2 : m ≤ nm) : A n ≤ A m := by
  have := J_ht_m h h0 (m - n).toNat (by omega)
  rw [show n + ((m - n).toNat : Int) = m from by omega] at this
  exact this
theorem J_ht_back {nm : Int} {L A N H : Int → Int} (h : J_ht nm L A N H) (h0 : 0 < nm) : J_ht (nm - 1) L A N (st H (c_bk L A (nm - 1)) (N (nm - 1))) := by
  have t := h.2 (nm - 1) (by omega) (by omega)
  refine ⟨fun b b0 b1 => ?_, fun n n0 n1 => h.2 n n0 (by omega)⟩
  by_cases z : b = c_bk L A (nm - 1)
  · rw [z, st_s]
    exact ⟨t.1, t.2.1, t.2.2.1, fun k k0 k1 => t.2.2.2.1 k k0 k1⟩
  · rw [st_n _ _ z]
    have u := h.1 b b0 b1
    refine ⟨u.1, ?_, u.2.2.1, fun k k0 k1 => u.2.2.2 k k0 (by omega)⟩
    rcases u.2.2.1 with q | q
    · omega
    · by_cases e : H b = nm
      · rw [e] at q; exact absurd q.symm z
      · have := u.2.1; omega
theorem J_ht_add {nm s b : Int} {L A N H L' : Int → Int} (h : J_ht nm L A N H) (h0 : 0 ≤ nm) (hs : 0 ≤ s) (e : ∀ j : Int, j < A nm → L' j = L j) (hb : b = h_b L' (A nm) s) (b0 : 0 ≤ b) (b1 : b < 4096) : J_ht (nm + 1) L' (st A (nm + 1) (A nm + s)) (st N nm (H b)) (st H b (nm + 1)) := by
  have old : ∀ n : Int, 0 ≤ n → n < nm → c_bk L' (st A (nm + 1) (A nm + s)) n = c_bk L A n := fun n n0 n1 => by
    unfold c_bk
    rw [st_n _ _ (show n + 1 ≠ nm + 1 from by omega), st_n _ _ (show n ≠ nm + 1 from by omega)]
    refine h_b_e (fun k k0 k1 => e _ ?_)
    have := J_ht_mono h (n := n + 1) (m := nm) (by omega) (by omega) (Int.le_refl _)
    omega
  have new : c_bk L' (st A (nm + 1) (A nm + s)) nm = b := by
    unfold c_bk
    rw [st_s, st_n _ _ (show nm ≠ nm + 1 from by omega), hb, show A nm + s - A nm = s from by omega]
  have hB := h.1 b b0 b1
  refine ⟨fun c c0 c1 => ?_, fun n n0 n1 => ?_⟩
  · by_cases z : c = b
    · rw [z, st_s]
      refine ⟨by omega, Int.le_refl _, Or.inr ?_, fun k k0 k1 => by omega⟩
      rw [show nm + 1 - 1 = nm from by omega]; exact new
    · rw [st_n _ _ z]
      have u := h.1 c c0 c1
      refine ⟨u.1, by omega, ?_, fun k k0 k1 => ?_⟩
      · rcases u.2.2.1 with q | q
        · exact Or.inl q
        · by_cases y : H c = 0
          · exact Or.inl y
          · refine Or.inr ?_; rw [old _ (by omega) (by omega)]; exact q
      · by_cases y : k = nm
        · rw [y, new]; exact fun r => z r.symm
        · rw [old k (by omega) (by omega)]; exact u.2.2.2 k k0 (by omega)
  · by_cases z : n = nm
    · rw [z, st_s, new]
      refine ⟨hB.1, hB.2.1, ?_, fun k k0 k1 => ?_, ?_, b0, b1⟩
      · by_cases y : H b = 0
        · exact Or.inl y
        · refine Or.inr ?_
          rw [old _ (by omega) (by omega)]
          rcases hB.2.2.1 with q | q
          · exact absurd q y
          · exact q
      · rw [old k (by omega) k1]; exact hB.2.2.2 k k0 k1
      · rw [st_s, st_n _ _ (show nm ≠ nm + 1 from by omega)]; omega
    · have u := h.2 n n0 (by omega)
      rw [st_n _ _ z, old n n0 (by omega), st_n _ _ (show n ≠ nm + 1 from by omega), st_n _ _ (show n + 1 ≠ nm + 1 from by omega)]
      refine ⟨u.1, u.2.1, ?_, fun k k0 k1 => ?_, u.2.2.2.2⟩
      · by_cases y : N n = 0
        · exact Or.inl y
        · refine Or.inr ?_
          rw [old _ (by omega) (by omega)]
          rcases u.2.2.1 with q | q
          · exact absurd q y
          · exact q
      · rw [old k (by omega) (by omega)]; exact u.2.2.2.1 k k0 k1
/-- name n is the row of s characters from a on -/
def c_eq (L A : Int → Int) (n : Int) (f : Int → Int) (a s : Int) : Prop := A (n + 1) - A n = s ∧ ∀ k : Int, 0 ≤ k → k < s → L (A n + k) = f (a + k)
theorem c_eq_b {L A : Int → Int} {n : Int} {f : Int → Int} {a s : Int} (h : c_eq L A n f a s) : c_bk L A n = h_b f a s := by
  unfold c_bk
  rw [h.1]
  exact h_b_e h.2
def J_mn (nm sy sa : Int) (M : Int → Int) : Prop := ∀ n : Int, 0 ≤ n → n < nm → -sy ≤ M n ∧ M n < sa
theorem J_mn_s {nm sy sa sy' sa' x : Int} {M : Int → Int} (h : J_mn nm sy sa M) (h1 : sy ≤ sy') (h2 : sa ≤ sa') (h3 : -sy' ≤ x) (h4 : x < sa') : J_mn (nm + 1) sy' sa' (st M nm x) := fun n n0 n1 => by
  by_cases z : n = nm
  · rw [z, st_s]; exact ⟨h3, h4⟩
  · rw [st_n _ _ z]; have := h n n0 (by omega); omega
theorem J_mn_w {nm sy sa sy' sa' : Int} {M : Int → Int} (h : J_mn nm sy sa M) (h1 : sy ≤ sy') (h2 : sa ≤ sa') : J_mn nm sy' sa' M := fun n n0 n1 => by have := h n n0 n1; omega
theorem cut_t (nm : Int) : True := trivial
/-- what is active where scopes began -/
def J_mk (d v h p : Int) (mk : Int → Int) : Prop := (∀ e f : Int, 0 ≤ e → e ≤ f → f ≤ d → mk (3 * e) ≤ mk (3 * f) ∧ mk (3 * e + 1) ≤ mk (3 * f + 1) ∧ mk (3 * e + 2) ≤ mk (3 * f + 2)) ∧ mk (3 * d) ≤ v ∧ mk (3 * d + 1) ≤ h ∧ mk (3 * d + 2) ≤ p
theorem J_mk_w {d v h p v' h' p' : Int} {mk : Int → Int} (a : J_mk d v h p mk) (h1 : v ≤ v') (h2 : h ≤ h') (h3 : p ≤ p') : J_mk d v' h' p' mk := ⟨a.1, by have := a.2; omega⟩
theorem J_mk_o {d v h p : Int} {mk : Int → Int} (a : J_mk d v h p mk) (d0 : 0 ≤ d) : J_mk (d + 1) v h p (st (st (st mk (3 * (d + 1)) v) (3 * (d + 1) + 1) h) (3 * (d + 1) + 2) p) := by
  have g0 : st (st (st mk (3 * (d + 1)) v) (3 * (d + 1) + 1) h) (3 * (d + 1) + 2) p (3 * (d + 1)) = v := by
    rw [st_n _ _ (by omega), st_n _ _ (by omega), st_s]
  have g1 : st (st (st mk (3 * (d + 1)) v) (3 * (d + 1) + 1) h) (3 * (d + 1) + 2) p (3 * (d + 1) + 1) = h := by
    rw [st_n _ _ (by omega), st_s]
  have g2 : st (st (st mk (3 * (d + 1)) v) (3 * (d + 1) + 1) h) (3 * (d + 1) + 2) p (3 * (d + 1) + 2) = p := st_s _ _ _
  have go : ∀ j : Int, j < 3 * (d + 1) → st (st (st mk (3 * (d + 1)) v) (3 * (d + 1) + 1) h) (3 * (d + 1) + 2) p j = mk j := fun j hj => by
    rw [st_n _ _ (by omega), st_n _ _ (by omega), st_n _ _ (by omega)]
  refine ⟨fun e f e0 e1 f1 => ?_, by rw [g0]; exact Int.le_refl _, by rw [g1]; exact Int.le_refl _, by rw [g2]; exact Int.le_refl _⟩
  by_cases z : f = d + 1
  · rw [z, g0, g1, g2]
    by_cases y : e = d + 1
    · rw [y, g0, g1, g2]; exact ⟨Int.le_refl _, Int.le_refl _, Int.le_refl _⟩
    · rw [go _ (by omega), go _ (by omega), go _ (by omega)]
      have := a.1 e d e0 (by omega) (Int.le_refl _)
      have := a.2
      omega
  · rw [go _ (by omega), go _ (by omega), go _ (by omega), go _ (by omega), go _ (by omega), go _ (by omega)]
    exact a.1 e f e0 e1 (by omega)
theorem J_mk_c {d v h p : Int} {mk : Int → Int} (a : J_mk d v h p mk) (d0 : 0 < d) : J_mk (d - 1) (mk (3 * d)) (mk (3 * d + 1)) (mk (3 * d + 2)) mk :=
  ⟨fun e f e0 e1 f1 => a.1 e f e0 e1 (by omega), a.1 (d - 1) d (by omega) (by omega) (Int.le_refl _)⟩
theorem J_mk_b {d v h p : Int} {mk : Int → Int} (a : J_mk d v h p mk) (d0 : 0 ≤ d) : J_mk 0 (mk 0) (mk 1) (mk 2) mk :=
  ⟨fun e f e0 e1 f1 => a.1 e f e0 e1 (by omega), Int.le_refl _, Int.le_refl _, Int.le_refl _⟩
theorem J_mk_k {v h p : Int} {mk : Int → Int} : J_mk 0 v h p (st (st (st mk (3 * 0) v) (3 * 0 + 1) h) (3 * 0 + 2) p) := by
  refine ⟨fun e f e0 e1 f1 => ?_, ?_, ?_, ?_⟩
  · rw [show e = 0 from by omega, show f = 0 from by omega]; exact ⟨Int.le_refl _, Int.le_refl _, Int.le_refl _⟩
  · rw [st_n _ _ (by omega), st_n _ _ (by omega), st_s]; exact Int.le_refl _
  · rw [st_n _ _ (by omega), st_s]; exact Int.le_refl _
  · rw [st_s]; exact Int.le_refl _
/-- the variables that are active: no two the same, all of them active, all of them symbols -/
def J_va (vc sy : Int) (act vars : Int → Int) : Prop := j_in vc 1000 vars ∧ ∀ n : Int, 0 ≤ n → n < vc → ¬ act (vars n) = 0 ∧ vars n < sy
theorem J_va_a {vc sy s : Int} {act vars : Int → Int} (h : J_va vc sy act vars) (s0 : 0 ≤ s) (s1 : s < sy) (s2 : sy ≤ 1000) (hs : ∀ n : Int, 0 ≤ n → n < vc → vars n ≠ s) : J_va (vc + 1) sy (st act s 1) (st vars vc s) := by
  refine ⟨j_ins h.1 s0 (by omega) hs, fun n n0 n1 => ?_⟩
  by_cases z : n = vc
  · rw [z, st_s, st_s]; exact ⟨by omega, s1⟩
  · rw [st_n _ _ z, st_n _ _ (hs n n0 (by omega))]; exact h.2 n n0 (by omega)
theorem J_va_w {vc sy sy' vc' : Int} {act vars : Int → Int} (h : J_va vc sy act vars) (h1 : sy ≤ sy') (h2 : vc' ≤ vc) : J_va vc' sy' act vars :=
  ⟨⟨fun i i0 i1 => h.1.1 i i0 (by omega), fun i j i0 i1 i2 => h.1.2 i j i0 i1 (by omega)⟩, fun n n0 n1 => by have := h.2 n n0 (by omega); exact ⟨this.1, by omega⟩⟩
/-- active hypotheses are statements before n of kinds 0, 1 -/
def J_hs (n c : Int) (kd hyp : Int → Int) : Prop := ∀ m : Int, 0 ≤ m → m < c → hyp m < n ∧ kd (hyp m) ≤ 1
theorem J_hs_w {n n' c c' : Int} {kd kd' hyp : Int → Int} (h : J_hs n c kd hyp) (hn : n ≤ n') (hc : c' ≤ c) (e : ∀ i : Int, i < n → kd' i = kd i) : J_hs n' c' kd' hyp := fun m m0 m1 => by
  have := h m m0 (by omega)
  rw [e _ this.1]; omega
theorem J_hs_a {n c x : Int} {kd hyp : Int → Int} (h : J_hs n c kd hyp) (hx : x < n) (hk : kd x ≤ 1) : J_hs n (c + 1) kd (st hyp c x) := fun m m0 m1 => by
  by_cases z : m = c
  · rw [z, st_s]; exact ⟨hx, hk⟩
  · rw [st_n _ _ z]; exact h m m0 (by omega)
