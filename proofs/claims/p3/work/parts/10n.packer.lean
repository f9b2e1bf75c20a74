-- pure: proofs packed anew
theorem st_st (f : Int → Int) (e x y : Int) : st (st f e x) e y = st f e y := by
  funext j
  by_cases z : j = e
  · rw [z, st_s, st_s]
  · rw [st_n _ _ z, st_n _ _ z, st_n _ _ z]
/-- rows of a proof, from b on -/
def J_pk (b cnt : Int) (kd fs rs ca ch : Int → Int) : Prop := (0 ≤ b ∧ 1 ≤ cnt ∧ b + cnt ≤ 20000) ∧ ∀ r : Int, 0 ≤ r → r < cnt → ca (b + r + 1) = ca (b + r) + (if 2 ≤ kd (rs (b + r)) then fs (rs (b + r)) else 0) ∧ ∀ c : Int, ca (b + r) ≤ c → c < ca (b + r + 1) → ch c < r
theorem J_pk_r {i ru : Int} {kd fs ra rc rs ca ch : Int → Int} (h : J_r i ru kd fs ra rc rs ca ch) (r0 : 0 ≤ ra i) (u : ru ≤ 20000) : J_pk (ra i) (rc i) kd fs rs ca ch := by
  refine ⟨⟨r0, h.1.1, by have := h.1.2; omega⟩, fun r a b => ?_⟩
  obtain ⟨h1, h2, h3⟩ := h.2 (ra i + r) (by omega) (by omega)
  exact ⟨h2, fun c c0 c1 => by have := h3 c c0 c1; omega⟩
theorem J_pk_m {b cnt r : Int} {kd fs rs ca ch : Int → Int} (h : J_pk b cnt kd fs rs ca ch) (f0 : ∀ j, 0 ≤ fs j) (a : 0 ≤ r) (c : r < cnt) : ca (b + r) ≤ ca (b + r + 1) := by
  have := (h.2 r a c).1
  have f := f0 (rs (b + r))
  by_cases z : 2 ≤ kd (rs (b + r))
  · rw [if_pos z] at this; omega
  · rw [if_neg z] at this; omega
theorem J_pk_w {b cnt r s : Int} {kd fs rs ca ch : Int → Int} (h : J_pk b cnt kd fs rs ca ch) (a : 0 ≤ r) (c : r < cnt) (d : 0 ≤ s) (e : s < cnt) (q : rs (b + r) = rs (b + s)) : ca (b + r + 1) - ca (b + r) = ca (b + s + 1) - ca (b + s) := by
  have x := (h.2 r a c).1
  have y := (h.2 s d e).1
  rw [q] at x
  omega
/-- rows that are the same stand not behind -/
def J_sa (n : Int) (same : Int → Int) : Prop := ∀ r : Int, 0 ≤ r → r < n → 0 ≤ same r ∧ same r ≤ r
theorem J_sa_a {n x : Int} {same : Int → Int} (h : J_sa n same) (x0 : 0 ≤ x) (x1 : x ≤ n) : J_sa (n + 1) (st same n x) := fun r a b => by
  by_cases z : r = n
  · rw [z, st_s]; exact ⟨x0, x1⟩
  · rw [st_n _ _ z]; exact h r a (by omega)
/-- chains of rows, each the first of its like -/
def J_hd (n mask : Int) (same hd nx : Int → Int) : Prop := (∀ b : Int, 0 ≤ b → b ≤ mask → hd b ≤ n ∧ (0 < hd b → same (hd b - 1) = hd b - 1)) ∧ ∀ r : Int, 0 ≤ r → r < n → same r = r → nx r ≤ r ∧ (0 < nx r → same (nx r - 1) = nx r - 1)
theorem J_hd_n {n mask b : Int} {same hd nx : Int → Int} (h : J_hd n mask same hd nx) (b0 : 0 ≤ b) (b1 : b ≤ mask) (n0 : 0 ≤ n) (h0 : ∀ j, 0 ≤ hd j) (n1 : ∀ j, 0 ≤ nx j) : J_hd (n + 1) mask (st same n n) (st hd b (n + 1)) (st nx n (hd b)) := by
  have old : ∀ x : Int, 0 < x → x ≤ n → same (x - 1) = x - 1 → st same n n (x - 1) = x - 1 := fun x a c d => by rw [st_n _ _ (show x - 1 ≠ n from by omega)]; exact d
  refine ⟨fun c c0 c1 => ?_, fun r r0 r1 r2 => ?_⟩
  · by_cases z : c = b
    · rw [z, st_s]; exact ⟨Int.le_refl _, fun _ => by rw [show n + 1 - 1 = n from by omega, st_s]⟩
    · rw [st_n _ _ z]; have w := h.1 c c0 c1; exact ⟨by omega, fun q => old _ q w.1 (w.2 q)⟩
  · by_cases z : r = n
    · rw [z, st_s]; have w := h.1 b b0 b1; exact ⟨w.1, fun q => old _ q w.1 (w.2 q)⟩
    · rw [st_n _ _ z] at r2 ⊢; have w := h.2 r r0 (by omega) r2; exact ⟨w.1, fun q => old _ q (by omega) (w.2 q)⟩
theorem J_hd_d {n mask x : Int} {same hd nx : Int → Int} (h : J_hd n mask same hd nx) (x1 : x < n) : J_hd (n + 1) mask (st same n x) hd nx := by
  have old : ∀ y : Int, 0 < y → y ≤ n → same (y - 1) = y - 1 → st same n x (y - 1) = y - 1 := fun y a c d => by rw [st_n _ _ (show y - 1 ≠ n from by omega)]; exact d
  refine ⟨fun c c0 c1 => ?_, fun r r0 r1 r2 => ?_⟩
  · have w := h.1 c c0 c1; exact ⟨by omega, fun q => old _ q w.1 (w.2 q)⟩
  · by_cases z : r = n
    · rw [z, st_s] at r2; omega
    · rw [st_n _ _ z] at r2; have w := h.2 r r0 (by omega) r2; exact ⟨w.1, fun q => old _ q (by omega) (w.2 q)⟩
/-- what is told: rows, or such that were told before -/
def J_tr (tc rt b : Int) (told same ca : Int → Int) : Prop := ∀ n : Int, 0 ≤ n → n < tc → (0 ≤ told n ∧ told n ≤ rt) ∨ (told n < 0 ∧ ∃ m : Int, 0 ≤ m ∧ m < n ∧ 0 ≤ told m ∧ told m ≤ rt ∧ ca (b + told m) < ca (b + told m + 1) ∧ same (told m) = -1 - told n)
theorem J_tr0 (rt b : Int) (told same ca : Int → Int) : J_tr 0 rt b told same ca := fun n a c => by omega
theorem J_tr_a {tc rt b x : Int} {told same ca : Int → Int} (h : J_tr tc rt b told same ca) (hx : (0 ≤ x ∧ x ≤ rt) ∨ (x < 0 ∧ ∃ m : Int, 0 ≤ m ∧ m < tc ∧ 0 ≤ told m ∧ told m ≤ rt ∧ ca (b + told m) < ca (b + told m + 1) ∧ same (told m) = -1 - x)) : J_tr (tc + 1) rt b (st told tc x) same ca := fun n a c => by
  by_cases z : n = tc
  · rw [z, st_s]
    rcases hx with q | ⟨q, m, m0, m1, m2, m3, m4, m5⟩
    · exact Or.inl q
    · exact Or.inr ⟨q, m, m0, m1, by rw [st_n _ _ (show m ≠ tc from by omega)]; exact ⟨m2, m3, m4, m5⟩⟩
  · rw [st_n _ _ z]
    rcases h n a (by omega) with q | ⟨q, m, m0, m1, m2, m3, m4, m5⟩
    · exact Or.inl q
    · exact Or.inr ⟨q, m, m0, m1, by rw [st_n _ _ (show m ≠ tc from by omega)]; exact ⟨m2, m3, m4, m5⟩⟩
/-- a class that counts as told was told -/
def J_c1 (r tc rt b : Int) (told same ca tl : Int → Int) : Prop := tc < 20001 → 0 < tl r → ∃ m : Int, 0 ≤ m ∧ m < tc ∧ 0 ≤ told m ∧ told m ≤ rt ∧ ca (b + told m) < ca (b + told m + 1) ∧ same (told m) = r
theorem J_c1_t {r tc rt b x : Int} {told same ca tl : Int → Int} (h : J_c1 r tc rt b told same ca tl) : J_c1 r (tc + 1) rt b (st told tc x) same ca tl := fun a c => by
  obtain ⟨m, m0, m1, m2⟩ := h (by omega) c
  exact ⟨m, m0, by omega, by rw [st_n _ _ (show m ≠ tc from by omega)]; exact m2⟩
theorem J_c1_s {r tc rt b e x : Int} {told same ca tl : Int → Int} (h : J_c1 r tc rt b told same ca tl) (he : r = e → 0 < x → 0 < tl e) : J_c1 r tc rt b told same ca (st tl e x) := fun a c => by
  by_cases z : r = e
  · rw [z, st_s] at c; exact h a (by rw [z]; exact he z c)
  · rw [st_n _ _ z] at c; exact h a c
theorem J_c1_n {r tc rt b e x y : Int} {told same ca tl : Int → Int} (h : J_c1 r tc rt b told same ca tl) (y0 : 0 ≤ y) (y1 : y ≤ rt) (y2 : ca (b + y) < ca (b + y + 1)) (y3 : same y = e) (t0 : 0 ≤ tc) : J_c1 r (tc + 1) rt b (st told tc y) same ca (st tl e x) := fun a c => by
  by_cases z : r = e
  · exact ⟨tc, t0, by omega, by rw [st_s]; exact y0, by rw [st_s]; exact y1, by rw [st_s]; exact y2, by rw [st_s, z]; exact y3⟩
  · rw [st_n _ _ z] at c
    obtain ⟨m, m0, m1, m2⟩ := h (by omega) c
    exact ⟨m, m0, by omega, by rw [st_n _ _ (show m ≠ tc from by omega)]; exact m2⟩
/-- labels of rows that were told stand where numbers and nextRow say -/
def J_nf (u b fc : Int) (told same ca nb nx : Int → Int) : Prop := ∀ m : Int, 0 ≤ m → m < u → 0 ≤ told m → ca (b + told m) < ca (b + told m + 1) → nb (same (told m)) < nx (same (told m)) ∧ nx (same (told m)) ≤ fc
theorem J_nf_k {u b fc fc' : Int} {told same ca nb nx : Int → Int} (h : J_nf u b fc told same ca nb nx) (f : fc ≤ fc') (z : told u < 0 ∨ ca (b + told u + 1) ≤ ca (b + told u)) : J_nf (u + 1) b fc' told same ca nb nx := fun m a c d e => by
  by_cases y : m = u
  · rw [y] at d e; omega
  · have := h m a (by omega) d e; omega
theorem J_nf_s {u b fc fc' c x : Int} {told same ca nb nx : Int → Int} (h : J_nf u b fc told same ca nb nx) (f : fc ≤ fc') (hx : x < fc') (hc : 0 ≤ told u → same (told u) = c) : J_nf (u + 1) b fc' told same ca (st nb c x) (st nx c fc') := fun m a d e g => by
  by_cases y : same (told m) = c
  · rw [y, st_s, st_s]; omega
  · rw [st_n _ _ y, st_n _ _ y]
    by_cases z : m = u
    · rw [z] at y e; exact absurd (hc e) y
    · have := h m a (by omega) e g; omega
theorem J_pk_cc {b r ru : Int} {ca : Int → Int} (cm : ∀ r s : Int, 0 ≤ r → r ≤ s → s ≤ ru → ca r ≤ ca s) (b0 : 0 ≤ b) (r0 : 0 ≤ r) (r1 : b + r < ru) : ca (b + r) ≤ ca (b + r + 1) := cm _ _ (by omega) (by omega) (by omega)
set_option maxHeartbeats 1000000 in
theorem K_J7_rangeCheck_23922 {n0 : Int} {n1 : Int} {n2 : Int} {σ : S0} (hT : c_T σ) (p1 : 0 ≤ n1) (p2 : n1 ≤ n2) (p3 : n2 ≤ n0) : W_J7_rangeCheck_23922 n0 n1 n2 σ (fun (τ : S0) => (c_T τ)) := by
  unfold W_J7_rangeCheck_23922
  refine ⟨fun c1 => ?_, fun c1 => ?_⟩
  ·
    refine ⟨fun c2 => ?_, fun c2 => ?_⟩
    ·
      refine ⟨fun c3 => ?_, fun c3 => ?_⟩
      ·
        exact hT
      ·
        exfalso; (first | omega | (simp only [st_s] <;> omega) | assumption | omega | fail)
    ·
      exfalso; (first | omega | (simp only [st_s] <;> omega) | assumption | omega | fail)
  ·
    exfalso; (first | omega | (simp only [st_s] <;> omega) | assumption | omega | fail)
set_option maxHeartbeats 1000000 in
theorem K_J7_fill_fda19_q72 {n1 : Int} {n2 : Int} {n3 : Int} {σ : S0} (hT : c_T σ) (p1 : 0 ≤ n1) (p2 : n1 ≤ n2) (p3 : n2 ≤ 32768) (p4 : n3 = 0) : W_J7_fill_fda19_q72 n1 n2 n3 σ (fun (τ : S0) => (c_T τ) ∧ (∀ e : Int, n1 ≤ e → e < n2 → τ.2.1 56 e = n3)) := by
  intro P10 h10
  have l_10 : ∀ (m_10 : Nat) (u4_10 : Int) (τ_10 : S0), 20001 + 20001 - u4_10 < (m_10 : Int) → (c_T τ_10) → (n1 ≤ u4_10) → (u4_10 ≤ n2) → (∀ e : Int, n1 ≤ e → e < u4_10 → τ_10.2.1 56 e = n3) → P10 n2 n3 u4_10 τ_10 := by
    intro m_10
    induction m_10 with
    | zero =>
      intro u4_10 τ_10 hm hT i10_1 i10_2 i10_3
      exfalso; (first | omega | (simp only [st_s] <;> omega) | assumption | omega | fail)
    | succ m_10 ih_10 =>
      intro u4_10 τ_10 hm_10 hT i10_1 i10_2 i10_3
      refine h10 n2 n3 u4_10 τ_10 ?_
      refine ⟨fun c4 => ?_, fun c4 => ?_⟩
      ·
        exact ⟨hT, (show ∀ e : Int, n1 ≤ e → e < n2 → τ_10.2.1 56 e = n3 from by exact fun e a b => i10_3 e a (by omega))⟩
      ·
        refine ⟨(show 0 ≤ u4_10 ∧ u4_10 < 32768 from by (first | omega | (simp only [st_s] <;> omega) | assumption | omega | fail)), ?_⟩
        replace hT := cT_a (k := 56) (j := u4_10) hT (show (0 : Int) ≤ n3 ∧ n3 ≤ 20000 from by (first | omega | (simp only [st_s] <;> omega) | assumption | omega | fail))
        refine ⟨(⟨by (first | omega | (simp only [st_s] <;> omega) | assumption | omega | fail), by (first | omega | (simp only [st_s] <;> omega) | assumption | omega | fail)⟩ : rg (u4_10 + 1)), ?_⟩
        exact ih_10 _ _ (show (20001 + 20001 - (u4_10 + 1) : Int) < ((m_10 : Nat) : Int) from by ((first | omega | (simp only [st_s] <;> omega) | assumption | omega | fail))) hT (show n1 ≤ (u4_10 + 1) from by (first | omega | (simp only [st_s] <;> omega) | assumption | omega | fail)) (show (u4_10 + 1) ≤ n2 from by (first | omega | (simp only [st_s] <;> omega) | assumption | omega | fail)) (show ∀ e : Int, n1 ≤ e → e < (u4_10 + 1) → (st (τ_10.2.1 56) u4_10 n3) e = n3 from by (first | (intro e a b; exfalso; omega) | (intro e a b; by_cases z : e = u4_10; (rw [z, st_s]); exact (st_n _ _ z).trans (i10_3 e a (by omega))) | fail))
  refine ⟨_, K_J7_rangeCheck_23922 hT (show 0 ≤ n1 from by (first | omega | (simp only [st_s] <;> omega) | assumption | omega | fail)) (show n1 ≤ n2 from by (first | omega | (simp only [st_s] <;> omega) | assumption | omega | fail)) (show n2 ≤ (32768 : Int) from by (first | omega | (simp only [st_s] <;> omega) | assumption | omega | fail)), ?_⟩
  intro τ3 hn_τ3 hf_τ3 hq
  replace hT := hq
  exact l_10 ((20001 + 20001 - n1 : Int).toNat + 1) _ _ (show (20001 + 20001 - n1 : Int) < (((20001 + 20001 - n1 : Int).toNat + 1 : Nat) : Int) from by ((first | omega | (simp only [st_s] <;> omega) | assumption | omega | fail))) hT (show n1 ≤ n1 from by (first | omega | (simp only [st_s] <;> omega) | assumption | omega | fail)) (show n1 ≤ n2 from by (first | omega | (simp only [st_s] <;> omega) | assumption | omega | fail)) (show ∀ e : Int, n1 ≤ e → e < n1 → τ3.2.1 56 e = n3 from by (first | (intro e a b; exfalso; omega) | (intro e a b; by_cases z : e = u4_10; (rw [z, st_s]); exact (st_n _ _ z).trans (i10_3 e a (by omega))) | fail))
set_option maxHeartbeats 1000000 in
theorem K_X4_hash {n1 : Int} {σ : S0} (hT : c_T σ) (p1 : 0 ≤ n1) (p2 : (σ.1 44) + n1 < 20000) : W_X4_hash n1 σ (fun (x : Int) => True) := by
  have v44 : 0 ≤ σ.1 44 ∧ σ.1 44 ≤ 20000 := hT.1 44
  intro P30 h30
  have l_30 : ∀ (m_30 : Nat) (u2_30 : Int) (u3_30 : Int), 20001 - u3_30 < (m_30 : Int) → (0 ≤ u3_30) → (u3_30 ≤ 20000) → P30 n1 u2_30 u3_30 := by
    intro m_30
    induction m_30 with
    | zero =>
      intro u2_30 u3_30 hm i30_1 i30_2
      exfalso; (first | omega | (simp only [st_s] <;> omega) | assumption | omega | fail)
    | succ m_30 ih_30 =>
      intro u2_30 u3_30 hm_30 i30_1 i30_2
      refine h30 n1 u2_30 u3_30 ?_
      refine ⟨(show 0 ≤ ((σ.1 44 + n1) + 1) ∧ ((σ.1 44 + n1) + 1) < 20001 from by (first | omega | (simp only [st_s] <;> omega) | assumption | omega | fail)), ?_⟩
      intro x6 r_x6 e_x6
      have b_x6 : 0 ≤ x6 ∧ x6 ≤ 20000 := by rw [e_x6]; exact hT.2 36 _
      refine ⟨fun c7 => ?_, fun c7 => ?_⟩
      ·
        intro x8 r_x8
        intro x9 r_x9
        exact trivial
      ·
        refine ⟨(show 0 ≤ u3_30 ∧ u3_30 < 20000 from by (first | omega | (simp only [st_s] <;> omega) | assumption | omega | fail)), ?_⟩
        intro x11 r_x11 e_x11
        have b_x11 : 0 ≤ x11 ∧ x11 ≤ 19999 := by rw [e_x11]; exact hT.2 37 _
        refine ⟨(show 0 ≤ x11 ∧ x11 < 20000 from by (first | omega | (simp only [st_s] <;> omega) | assumption | omega | fail)), ?_⟩
        intro x13 r_x13 e_x13
        have b_x13 : 0 ≤ x13 ∧ x13 ≤ 19999 := by rw [e_x13]; exact hT.2 55 _
        intro x14 r_x14
        refine ⟨(⟨by (first | omega | (simp only [st_s] <;> omega) | assumption | omega | fail), by (first | omega | (simp only [st_s] <;> omega) | assumption | omega | fail)⟩ : rg (u3_30 + 1)), ?_⟩
        exact ih_30 _ _ (show (20001 - (u3_30 + 1) : Int) < ((m_30 : Nat) : Int) from by ((first | omega | (simp only [st_s] <;> omega) | assumption | omega | fail))) (show 0 ≤ (u3_30 + 1) from by (first | omega | (simp only [st_s] <;> omega) | assumption | omega | fail)) (show (u3_30 + 1) ≤ 20000 from by (first | omega | (simp only [st_s] <;> omega) | assumption | omega | fail))
  refine ⟨(show 0 ≤ (σ.1 44 + n1) ∧ (σ.1 44 + n1) < 20000 from by (first | omega | (simp only [st_s] <;> omega) | assumption | omega | fail)), ?_⟩
  intro x2 r_x2 e_x2
  have b_x2 : 0 ≤ x2 ∧ x2 ≤ 1499 := by rw [e_x2]; exact hT.2 35 _
  refine ⟨(show 0 ≤ (σ.1 44 + n1) ∧ (σ.1 44 + n1) < 20001 from by (first | omega | (simp only [st_s] <;> omega) | assumption | omega | fail)), ?_⟩
  intro x4 r_x4 e_x4
  have b_x4 : 0 ≤ x4 ∧ x4 ≤ 20000 := by rw [e_x4]; exact hT.2 36 _
  exact l_30 ((20001 - x4 : Int).toNat + 1) _ _ (show (20001 - x4 : Int) < (((20001 - x4 : Int).toNat + 1 : Nat) : Int) from by ((first | omega | (simp only [st_s] <;> omega) | assumption | omega | fail))) (show 0 ≤ x4 from by (first | omega | (simp only [st_s] <;> omega) | assumption | omega | fail)) (show x4 ≤ 20000 from by (first | omega | (simp only [st_s] <;> omega) | assumption | omega | fail))
set_option maxHeartbeats 1000000 in
theorem K_X4_isAlike {n1 : Int} {n2 : Int} {σ : S0} (hT : c_T σ) (p1 : 0 ≤ n1) (p2 : (σ.1 44) + n1 < 20000) (p3 : 0 ≤ n2) (p4 : (σ.1 44) + n2 < 20000) (p5 : σ.2.1 36 ((σ.1 44) + n1) ≤ σ.2.1 36 ((σ.1 44) + n1 + 1)) (p6 : σ.2.1 35 ((σ.1 44) + n1) = σ.2.1 35 ((σ.1 44) + n2) → σ.2.1 36 ((σ.1 44) + n2) + (σ.2.1 36 ((σ.1 44) + n1 + 1) - σ.2.1 36 ((σ.1 44) + n1)) ≤ 20000) : W_X4_isAlike n1 n2 σ (fun (x : Int) => (0 ≤ x ∧ x ≤ 1)) := by
  have A35 : ∀ j, 0 ≤ σ.2.1 35 j ∧ σ.2.1 35 j ≤ 1499 := fun j => hT.2 35 j
  have A36 : ∀ j, 0 ≤ σ.2.1 36 j ∧ σ.2.1 36 j ≤ 20000 := fun j => hT.2 36 j
  have v44 : 0 ≤ σ.1 44 ∧ σ.1 44 ≤ 20000 := hT.1 44
  intro P67 h67
  have cz1 := A36 (σ.1 44 + n1 + 1)
  have cz2 := A36 (σ.1 44 + n1)
  have cz3 := A36 (σ.1 44 + n2)
  have l_67 : ∀ (m_67 : Nat) (u3_67 : Int) (u4_67 : Int) (u5_67 : Int), 20001 - u5_67 < (m_67 : Int) → (u3_67 = σ.2.1 36 ((σ.1 44) + n1)) → (u4_67 = σ.2.1 36 ((σ.1 44) + n2)) → (0 ≤ u5_67) → (u5_67 ≤ 20000) → (u4_67 + (σ.2.1 36 ((σ.1 44) + n1 + 1) - u3_67) ≤ 20000) → P67 n1 u3_67 u4_67 u5_67 := by
    intro m_67
    induction m_67 with
    | zero =>
      intro u3_67 u4_67 u5_67 hm i67_1 i67_2 i67_3 i67_4 i67_5
      exfalso; (first | omega | (simp only [st_s] <;> omega) | assumption | omega | fail)
    | succ m_67 ih_67 =>
      intro u3_67 u4_67 u5_67 hm_67 i67_1 i67_2 i67_3 i67_4 i67_5
      refine h67 n1 u3_67 u4_67 u5_67 ?_
      refine ⟨(⟨by (first | omega | (simp only [st_s] <;> omega) | assumption | omega | fail), by (first | omega | (simp only [st_s] <;> omega) | assumption | omega | fail)⟩ : rg (σ.1 44 + n1)), ?_⟩
      refine ⟨_, K_X0_childCount hT (show 0 ≤ (σ.1 44 + n1) from by (first | omega | (simp only [st_s] <;> omega) | assumption | omega | fail)) (show (σ.1 44 + n1) < 20000 from by (first | omega | (simp only [st_s] <;> omega) | assumption | omega | fail)), ?_⟩
      intro x12 r_x12 hq
      have q11_1 := hq
      replace q11_1 : x12 = σ.2.1 36 ((σ.1 44 + n1) + 1) - σ.2.1 36 (σ.1 44 + n1) := q11_1
      refine ⟨fun c14 => ?_, fun c14 => ?_⟩
      ·
        exact (show 0 ≤ 1 ∧ 1 ≤ 1 from by (first | omega | (simp only [st_s] <;> omega) | assumption | omega | fail))
      ·
        refine ⟨(show 0 ≤ (u3_67 + u5_67) ∧ (u3_67 + u5_67) < 20000 from by (first | omega | (simp only [st_s] <;> omega) | assumption | omega | fail)), ?_⟩
        intro x16 r_x16 e_x16
        have b_x16 : 0 ≤ x16 ∧ x16 ≤ 19999 := by rw [e_x16]; exact hT.2 37 _
        refine ⟨(show 0 ≤ x16 ∧ x16 < 20000 from by (first | omega | (simp only [st_s] <;> omega) | assumption | omega | fail)), ?_⟩
        intro x18 r_x18 e_x18
        have b_x18 : 0 ≤ x18 ∧ x18 ≤ 19999 := by rw [e_x18]; exact hT.2 55 _
        refine ⟨(show 0 ≤ (u4_67 + u5_67) ∧ (u4_67 + u5_67) < 20000 from by (first | omega | (simp only [st_s] <;> omega) | assumption | omega | fail)), ?_⟩
        intro x20 r_x20 e_x20
        have b_x20 : 0 ≤ x20 ∧ x20 ≤ 19999 := by rw [e_x20]; exact hT.2 37 _
        refine ⟨(show 0 ≤ x20 ∧ x20 < 20000 from by (first | omega | (simp only [st_s] <;> omega) | assumption | omega | fail)), ?_⟩
        intro x22 r_x22 e_x22
        have b_x22 : 0 ≤ x22 ∧ x22 ≤ 19999 := by rw [e_x22]; exact hT.2 55 _
        refine ⟨fun c23 => ?_, fun c23 => ?_⟩
        ·
          refine ⟨(⟨by (first | omega | (simp only [st_s] <;> omega) | assumption | omega | fail), by (first | omega | (simp only [st_s] <;> omega) | assumption | omega | fail)⟩ : rg (u5_67 + 1)), ?_⟩
          exact ih_67 _ _ _ (show (20001 - (u5_67 + 1) : Int) < ((m_67 : Nat) : Int) from by ((first | omega | (simp only [st_s] <;> omega) | assumption | omega | fail))) (show u3_67 = σ.2.1 36 ((σ.1 44) + n1) from by (first | omega | (simp only [st_s] <;> omega) | assumption | omega | fail)) (show u4_67 = σ.2.1 36 ((σ.1 44) + n2) from by (first | omega | (simp only [st_s] <;> omega) | assumption | omega | fail)) (show 0 ≤ (u5_67 + 1) from by (first | omega | (simp only [st_s] <;> omega) | assumption | omega | fail)) (show (u5_67 + 1) ≤ 20000 from by (first | omega | (simp only [st_s] <;> omega) | assumption | omega | fail)) (show u4_67 + (σ.2.1 36 ((σ.1 44) + n1 + 1) - u3_67) ≤ 20000 from by (first | omega | (simp only [st_s] <;> omega) | assumption | omega | fail))
        ·
          exact (show 0 ≤ 0 ∧ 0 ≤ 1 from by (first | omega | (simp only [st_s] <;> omega) | assumption | omega | fail))
  refine ⟨(show 0 ≤ (σ.1 44 + n1) ∧ (σ.1 44 + n1) < 20000 from by (first | omega | (simp only [st_s] <;> omega) | assumption | omega | fail)), ?_⟩
  intro x2 r_x2 e_x2
  have b_x2 : 0 ≤ x2 ∧ x2 ≤ 1499 := by rw [e_x2]; exact hT.2 35 _
  refine ⟨(show 0 ≤ (σ.1 44 + n2) ∧ (σ.1 44 + n2) < 20000 from by (first | omega | (simp only [st_s] <;> omega) | assumption | omega | fail)), ?_⟩
  intro x4 r_x4 e_x4
  have b_x4 : 0 ≤ x4 ∧ x4 ≤ 1499 := by rw [e_x4]; exact hT.2 35 _
  refine ⟨fun c5 => ?_, fun c5 => ?_⟩
  ·
    refine ⟨(show 0 ≤ (σ.1 44 + n1) ∧ (σ.1 44 + n1) < 20001 from by (first | omega | (simp only [st_s] <;> omega) | assumption | omega | fail)), ?_⟩
    intro x7 r_x7 e_x7
    have b_x7 : 0 ≤ x7 ∧ x7 ≤ 20000 := by rw [e_x7]; exact hT.2 36 _
    refine ⟨(show 0 ≤ (σ.1 44 + n2) ∧ (σ.1 44 + n2) < 20001 from by (first | omega | (simp only [st_s] <;> omega) | assumption | omega | fail)), ?_⟩
    intro x9 r_x9 e_x9
    have b_x9 : 0 ≤ x9 ∧ x9 ≤ 20000 := by rw [e_x9]; exact hT.2 36 _
    exact l_67 ((20001 - 0 : Int).toNat + 1) _ _ _ (show (20001 - 0 : Int) < (((20001 - 0 : Int).toNat + 1 : Nat) : Int) from by ((first | omega | (simp only [st_s] <;> omega) | assumption | omega | fail))) (show x7 = σ.2.1 36 ((σ.1 44) + n1) from by (first | omega | (simp only [st_s] <;> omega) | assumption | omega | fail)) (show x9 = σ.2.1 36 ((σ.1 44) + n2) from by (first | omega | (simp only [st_s] <;> omega) | assumption | omega | fail)) (show 0 ≤ 0 from by (first | omega | (simp only [st_s] <;> omega) | assumption | omega | fail)) (show 0 ≤ 20000 from by (first | omega | (simp only [st_s] <;> omega) | assumption | omega | fail)) (show x9 + (σ.2.1 36 ((σ.1 44) + n1 + 1) - x7) ≤ 20000 from by (first | omega | (simp only [st_s] <;> omega) | assumption | omega | fail))
  ·
    exact (show 0 ≤ 0 ∧ 0 ≤ 1 from by (first | omega | (simp only [st_s] <;> omega) | assumption | omega | fail))
set_option maxHeartbeats 1000000 in
theorem K_X4_findSame {n1 : Int} {σ : S0} (hT : c_T σ) (p1 : J_pk (σ.1 44) n1 (σ.2.1 13) (σ.2.1 28) (σ.2.1 35) (σ.2.1 36) (σ.2.1 37)) : W_X4_findSame n1 σ (fun (τ : S0) => (c_T τ) ∧ (J_sa n1 (τ.2.1 55))) := by
  have A13 : ∀ j, 0 ≤ σ.2.1 13 j ∧ σ.2.1 13 j ≤ 4 := fun j => hT.2 13 j
  have A28 : ∀ j, 0 ≤ σ.2.1 28 j ∧ σ.2.1 28 j ≤ 60 := fun j => hT.2 28 j
  have A35 : ∀ j, 0 ≤ σ.2.1 35 j ∧ σ.2.1 35 j ≤ 1499 := fun j => hT.2 35 j
  have A36 : ∀ j, 0 ≤ σ.2.1 36 j ∧ σ.2.1 36 j ≤ 20000 := fun j => hT.2 36 j
  have A37 : ∀ j, 0 ≤ σ.2.1 37 j ∧ σ.2.1 37 j ≤ 19999 := fun j => hT.2 37 j
  have A55 : ∀ j, 0 ≤ σ.2.1 55 j ∧ σ.2.1 55 j ≤ 19999 := fun j => hT.2 55 j
  have A56 : ∀ j, 0 ≤ σ.2.1 56 j ∧ σ.2.1 56 j ≤ 20000 := fun j => hT.2 56 j
  have A57 : ∀ j, 0 ≤ σ.2.1 57 j ∧ σ.2.1 57 j ≤ 20000 := fun j => hT.2 57 j
  have v44 : 0 ≤ σ.1 44 ∧ σ.1 44 ≤ 20000 := hT.1 44
  have W44 : σ.1 44 = σ.1 44 := rfl
  have G13 : σ.2.1 13 = σ.2.1 13 := rfl
  have G28 : σ.2.1 28 = σ.2.1 28 := rfl
  have G35 : σ.2.1 35 = σ.2.1 35 := rfl
  have G36 : σ.2.1 36 = σ.2.1 36 := rfl
  have G37 : σ.2.1 37 = σ.2.1 37 := rfl
  intro P2 P20 P35 P61 P101 h2 h20 h35 h61 h101
  have pk := p1
  have f0 : ∀ j, 0 ≤ σ.2.1 28 j := fun j => (A28 j).1
  have pb := p1.1
  have l_35 : ∀ (m_35 : Nat) (u2_35 : Int) (u3_35 : Int) (τ_35 : S0), 20001 - u3_35 < (m_35 : Int) → (c_T τ_35) → (τ_35.1 44 = σ.1 44) → (τ_35.2.1 13 = σ.2.1 13) → (τ_35.2.1 28 = σ.2.1 28) → (τ_35.2.1 35 = σ.2.1 35) → (τ_35.2.1 36 = σ.2.1 36) → (τ_35.2.1 37 = σ.2.1 37) → (0 ≤ u3_35) → (u3_35 ≤ n1) → (0 ≤ u2_35) → (u2_35 < 32768) → (J_sa u3_35 (τ_35.2.1 55)) → (J_hd u3_35 u2_35 (τ_35.2.1 55) (τ_35.2.1 56) (τ_35.2.1 57)) → P35 n1 u2_35 u3_35 τ_35 := by
    intro m_35
    induction m_35 with
    | zero =>
      intro u2_35 u3_35 τ_35 hm hT W44 G13 G28 G35 G36 G37 i35_1 i35_2 i35_3 i35_4 i35_5 i35_6
      have A13 : ∀ j, 0 ≤ τ_35.2.1 13 j ∧ τ_35.2.1 13 j ≤ 4 := fun j => hT.2 13 j
      have A28 : ∀ j, 0 ≤ τ_35.2.1 28 j ∧ τ_35.2.1 28 j ≤ 60 := fun j => hT.2 28 j
      have A35 : ∀ j, 0 ≤ τ_35.2.1 35 j ∧ τ_35.2.1 35 j ≤ 1499 := fun j => hT.2 35 j
      have A36 : ∀ j, 0 ≤ τ_35.2.1 36 j ∧ τ_35.2.1 36 j ≤ 20000 := fun j => hT.2 36 j
      have A37 : ∀ j, 0 ≤ τ_35.2.1 37 j ∧ τ_35.2.1 37 j ≤ 19999 := fun j => hT.2 37 j
      have A55 : ∀ j, 0 ≤ τ_35.2.1 55 j ∧ τ_35.2.1 55 j ≤ 19999 := fun j => hT.2 55 j
      have A56 : ∀ j, 0 ≤ τ_35.2.1 56 j ∧ τ_35.2.1 56 j ≤ 20000 := fun j => hT.2 56 j
      have A57 : ∀ j, 0 ≤ τ_35.2.1 57 j ∧ τ_35.2.1 57 j ≤ 20000 := fun j => hT.2 57 j
      have v44 : 0 ≤ τ_35.1 44 ∧ τ_35.1 44 ≤ 20000 := hT.1 44
      exfalso; (first | omega | (simp only [st_s] <;> omega) | assumption | omega | fail)
    | succ m_35 ih_35 =>
      intro u2_35 u3_35 τ_35 hm_35 hT W44 G13 G28 G35 G36 G37 i35_1 i35_2 i35_3 i35_4 i35_5 i35_6
      have A13 : ∀ j, 0 ≤ τ_35.2.1 13 j ∧ τ_35.2.1 13 j ≤ 4 := fun j => hT.2 13 j
      have A28 : ∀ j, 0 ≤ τ_35.2.1 28 j ∧ τ_35.2.1 28 j ≤ 60 := fun j => hT.2 28 j
      have A35 : ∀ j, 0 ≤ τ_35.2.1 35 j ∧ τ_35.2.1 35 j ≤ 1499 := fun j => hT.2 35 j
      have A36 : ∀ j, 0 ≤ τ_35.2.1 36 j ∧ τ_35.2.1 36 j ≤ 20000 := fun j => hT.2 36 j
      have A37 : ∀ j, 0 ≤ τ_35.2.1 37 j ∧ τ_35.2.1 37 j ≤ 19999 := fun j => hT.2 37 j
      have A55 : ∀ j, 0 ≤ τ_35.2.1 55 j ∧ τ_35.2.1 55 j ≤ 19999 := fun j => hT.2 55 j
      have A56 : ∀ j, 0 ≤ τ_35.2.1 56 j ∧ τ_35.2.1 56 j ≤ 20000 := fun j => hT.2 56 j
      have A57 : ∀ j, 0 ≤ τ_35.2.1 57 j ∧ τ_35.2.1 57 j ≤ 20000 := fun j => hT.2 57 j
      have v44 : 0 ≤ τ_35.1 44 ∧ τ_35.1 44 ≤ 20000 := hT.1 44
      have l_101 : ∀ (u2_101 : Int) (u3_101 : Int) (u4_101 : Int) (u5_101 : Int) (τ_101 : S0), (c_T τ_101) → (τ_101.1 44 = σ.1 44) → (τ_101.2.1 13 = σ.2.1 13) → (τ_101.2.1 28 = σ.2.1 28) → (τ_101.2.1 35 = σ.2.1 35) → (τ_101.2.1 36 = σ.2.1 36) → (τ_101.2.1 37 = σ.2.1 37) → (0 ≤ u3_101) → (u3_101 < n1) → (0 ≤ u2_101) → (u2_101 < 32768) → (J_sa u3_101 (τ_101.2.1 55)) → (J_hd u3_101 u2_101 (τ_101.2.1 55) (τ_101.2.1 56) (τ_101.2.1 57)) → (0 ≤ u4_101 ∧ u4_101 ≤ u2_101) → (0 ≤ u5_101 ∧ u5_101 ≤ u3_101) → (u3_101 + (m_35 : Int) ≥ 20001) → P101 n1 u2_101 u3_101 u4_101 u5_101 τ_101 := by
        intro u2_101 u3_101 u4_101 u5_101 τ_101 hT W44 G13 G28 G35 G36 G37 i101_1 i101_2 i101_3 i101_4 i101_5 i101_6 i101_7 i101_8 i101_9
        have A13 : ∀ j, 0 ≤ τ_101.2.1 13 j ∧ τ_101.2.1 13 j ≤ 4 := fun j => hT.2 13 j
        have A28 : ∀ j, 0 ≤ τ_101.2.1 28 j ∧ τ_101.2.1 28 j ≤ 60 := fun j => hT.2 28 j
        have A35 : ∀ j, 0 ≤ τ_101.2.1 35 j ∧ τ_101.2.1 35 j ≤ 1499 := fun j => hT.2 35 j
        have A36 : ∀ j, 0 ≤ τ_101.2.1 36 j ∧ τ_101.2.1 36 j ≤ 20000 := fun j => hT.2 36 j
        have A37 : ∀ j, 0 ≤ τ_101.2.1 37 j ∧ τ_101.2.1 37 j ≤ 19999 := fun j => hT.2 37 j
        have A55 : ∀ j, 0 ≤ τ_101.2.1 55 j ∧ τ_101.2.1 55 j ≤ 19999 := fun j => hT.2 55 j
        have A56 : ∀ j, 0 ≤ τ_101.2.1 56 j ∧ τ_101.2.1 56 j ≤ 20000 := fun j => hT.2 56 j
        have A57 : ∀ j, 0 ≤ τ_101.2.1 57 j ∧ τ_101.2.1 57 j ≤ 20000 := fun j => hT.2 57 j
        have v44 : 0 ≤ τ_101.1 44 ∧ τ_101.1 44 ≤ 20000 := hT.1 44
        refine h101 n1 u2_101 u3_101 u4_101 u5_101 τ_101 ?_
        refine ⟨(show 0 ≤ u3_101 ∧ u3_101 < 20000 from by (first | omega | (simp only [st_s] <;> omega) | assumption | omega | fail)), ?_⟩
        replace hT := cT_a (k := 55) (j := u3_101) hT (show (0 : Int) ≤ u3_101 ∧ u3_101 ≤ 19999 from by (first | omega | (simp only [st_s] <;> omega) | assumption | omega | fail))
        refine ⟨fun c26 => ?_, fun c26 => ?_⟩
        ·
          refine ⟨(show 0 ≤ u4_101 ∧ u4_101 < 32768 from by (first | omega | (simp only [st_s] <;> omega) | assumption | omega | fail)), ?_⟩
          intro x28 r_x28 e_x28
          have b_x28 : 0 ≤ x28 ∧ x28 ≤ 20000 := by rw [e_x28]; exact hT.2 56 _
          replace hT := cT_a (k := 57) (j := u3_101) hT (show (0 : Int) ≤ x28 ∧ x28 ≤ 20000 from by (first | omega | (simp only [st_s] <;> omega) | assumption | omega | fail))
          refine ⟨(⟨by (first | omega | (simp only [st_s] <;> omega) | assumption | omega | fail), by (first | omega | (simp only [st_s] <;> omega) | assumption | omega | fail)⟩ : rg (u3_101 + 1)), ?_⟩
          replace hT := cT_a (k := 56) (j := u4_101) hT (show (0 : Int) ≤ (u3_101 + 1) ∧ (u3_101 + 1) ≤ 20000 from by (first | omega | (simp only [st_s] <;> omega) | assumption | omega | fail))
          exact ih_35 _ _ _ (show (20001 - (u3_101 + 1) : Int) < ((m_35 : Nat) : Int) from by ((first | omega | (simp only [st_s] <;> omega) | assumption | omega | fail))) hT (show τ_101.1 44 = σ.1 44 from by first | exact W44 | omega) G13 G28 G35 G36 G37 (show 0 ≤ (u3_101 + 1) from by (first | omega | (simp only [st_s] <;> omega) | assumption | omega | fail)) (show (u3_101 + 1) ≤ n1 from by (first | omega | (simp only [st_s] <;> omega) | assumption | omega | fail)) (show 0 ≤ u2_101 from by (first | omega | (simp only [st_s] <;> omega) | assumption | omega | fail)) (show u2_101 < 32768 from by (first | omega | (simp only [st_s] <;> omega) | assumption | omega | fail)) (show J_sa (u3_101 + 1) ((st (τ_101.2.1 55) u3_101 u3_101)) from by (first | (intro r a b; exfalso; omega) | exact J_sa_a i101_5 (by omega) (by omega) | (rw [st_st]; exact J_sa_a i101_5 (by omega) (by omega)) | fail)) (show J_hd (u3_101 + 1) u2_101 ((st (τ_101.2.1 55) u3_101 u3_101)) ((st (τ_101.2.1 56) u4_101 (u3_101 + 1))) ((st (τ_101.2.1 57) u3_101 x28)) from by (first | (refine ⟨fun b b0 b1 => ?_, fun r a b => by omega⟩; rw [q4_1 b b0 (by omega)]; exact ⟨by omega, fun q => by omega⟩) | (rw [e_x28]; exact J_hd_n i101_6 (by omega) (by omega) (by omega) (fun j => (A56 j).1) (fun j => (A57 j).1)) | (rw [st_st]; exact J_hd_d i101_6 (by omega)) | fail))
        ·
          refine ⟨(⟨by (first | omega | (simp only [st_s] <;> omega) | assumption | omega | fail), by (first | omega | (simp only [st_s] <;> omega) | assumption | omega | fail)⟩ : rg (u5_101 - 1)), ?_⟩
          replace hT := cT_a (k := 55) (j := u3_101) hT (show (0 : Int) ≤ (u5_101 - 1) ∧ (u5_101 - 1) ≤ 19999 from by (first | omega | (simp only [st_s] <;> omega) | assumption | omega | fail))
          refine ⟨(⟨by (first | omega | (simp only [st_s] <;> omega) | assumption | omega | fail), by (first | omega | (simp only [st_s] <;> omega) | assumption | omega | fail)⟩ : rg (u3_101 + 1)), ?_⟩
          exact ih_35 _ _ _ (show (20001 - (u3_101 + 1) : Int) < ((m_35 : Nat) : Int) from by ((first | omega | (simp only [st_s] <;> omega) | assumption | omega | fail))) hT (show τ_101.1 44 = σ.1 44 from by first | exact W44 | omega) G13 G28 G35 G36 G37 (show 0 ≤ (u3_101 + 1) from by (first | omega | (simp only [st_s] <;> omega) | assumption | omega | fail)) (show (u3_101 + 1) ≤ n1 from by (first | omega | (simp only [st_s] <;> omega) | assumption | omega | fail)) (show 0 ≤ u2_101 from by (first | omega | (simp only [st_s] <;> omega) | assumption | omega | fail)) (show u2_101 < 32768 from by (first | omega | (simp only [st_s] <;> omega) | assumption | omega | fail)) (show J_sa (u3_101 + 1) ((st (st (τ_101.2.1 55) u3_101 u3_101) u3_101 (u5_101 - 1))) from by (first | (intro r a b; exfalso; omega) | exact J_sa_a i101_5 (by omega) (by omega) | (rw [st_st]; exact J_sa_a i101_5 (by omega) (by omega)) | fail)) (show J_hd (u3_101 + 1) u2_101 ((st (st (τ_101.2.1 55) u3_101 u3_101) u3_101 (u5_101 - 1))) (τ_101.2.1 56) (τ_101.2.1 57) from by (first | (refine ⟨fun b b0 b1 => ?_, fun r a b => by omega⟩; rw [q4_1 b b0 (by omega)]; exact ⟨by omega, fun q => by omega⟩) | (rw [e_x28]; exact J_hd_n i101_6 (by omega) (by omega) (by omega) (fun j => (A56 j).1) (fun j => (A57 j).1)) | (rw [st_st]; exact J_hd_d i101_6 (by omega)) | fail))
      have l_61 : ∀ (m_61 : Nat) (u2_61 : Int) (u3_61 : Int) (u4_61 : Int) (u5_61 : Int) (u6_61 : Int) (τ_61 : S0), 20001 - u6_61 < (m_61 : Int) → (c_T τ_61) → (τ_61.1 44 = σ.1 44) → (τ_61.2.1 13 = σ.2.1 13) → (τ_61.2.1 28 = σ.2.1 28) → (τ_61.2.1 35 = σ.2.1 35) → (τ_61.2.1 36 = σ.2.1 36) → (τ_61.2.1 37 = σ.2.1 37) → (0 ≤ u3_61) → (u3_61 < n1) → (0 ≤ u2_61) → (u2_61 < 32768) → (J_sa u3_61 (τ_61.2.1 55)) → (J_hd u3_61 u2_61 (τ_61.2.1 55) (τ_61.2.1 56) (τ_61.2.1 57)) → (0 ≤ u4_61 ∧ u4_61 ≤ u2_61) → (0 ≤ u5_61 ∧ u5_61 ≤ u3_61) → (0 < u5_61 → τ_61.2.1 55 (u5_61 - 1) = u5_61 - 1) → (0 ≤ u6_61 ∧ u6_61 ≤ 20000) → (u3_61 + (m_35 : Int) ≥ 20001) → P61 n1 u2_61 u3_61 u4_61 u5_61 u6_61 τ_61 := by
        intro m_61
        induction m_61 with
        | zero =>
          intro u2_61 u3_61 u4_61 u5_61 u6_61 τ_61 hm hT W44 G13 G28 G35 G36 G37 i61_1 i61_2 i61_3 i61_4 i61_5 i61_6 i61_7 i61_8 i61_9 i61_10 i61_11
          have A13 : ∀ j, 0 ≤ τ_61.2.1 13 j ∧ τ_61.2.1 13 j ≤ 4 := fun j => hT.2 13 j
          have A28 : ∀ j, 0 ≤ τ_61.2.1 28 j ∧ τ_61.2.1 28 j ≤ 60 := fun j => hT.2 28 j
          have A35 : ∀ j, 0 ≤ τ_61.2.1 35 j ∧ τ_61.2.1 35 j ≤ 1499 := fun j => hT.2 35 j
          have A36 : ∀ j, 0 ≤ τ_61.2.1 36 j ∧ τ_61.2.1 36 j ≤ 20000 := fun j => hT.2 36 j
          have A37 : ∀ j, 0 ≤ τ_61.2.1 37 j ∧ τ_61.2.1 37 j ≤ 19999 := fun j => hT.2 37 j
          have A55 : ∀ j, 0 ≤ τ_61.2.1 55 j ∧ τ_61.2.1 55 j ≤ 19999 := fun j => hT.2 55 j
          have A56 : ∀ j, 0 ≤ τ_61.2.1 56 j ∧ τ_61.2.1 56 j ≤ 20000 := fun j => hT.2 56 j
          have A57 : ∀ j, 0 ≤ τ_61.2.1 57 j ∧ τ_61.2.1 57 j ≤ 20000 := fun j => hT.2 57 j
          have v44 : 0 ≤ τ_61.1 44 ∧ τ_61.1 44 ≤ 20000 := hT.1 44
          exfalso; (first | omega | (simp only [st_s] <;> omega) | assumption | omega | fail)
        | succ m_61 ih_61 =>
          intro u2_61 u3_61 u4_61 u5_61 u6_61 τ_61 hm_61 hT W44 G13 G28 G35 G36 G37 i61_1 i61_2 i61_3 i61_4 i61_5 i61_6 i61_7 i61_8 i61_9 i61_10 i61_11
          have A13 : ∀ j, 0 ≤ τ_61.2.1 13 j ∧ τ_61.2.1 13 j ≤ 4 := fun j => hT.2 13 j
          have A28 : ∀ j, 0 ≤ τ_61.2.1 28 j ∧ τ_61.2.1 28 j ≤ 60 := fun j => hT.2 28 j
          have A35 : ∀ j, 0 ≤ τ_61.2.1 35 j ∧ τ_61.2.1 35 j ≤ 1499 := fun j => hT.2 35 j
          have A36 : ∀ j, 0 ≤ τ_61.2.1 36 j ∧ τ_61.2.1 36 j ≤ 20000 := fun j => hT.2 36 j
          have A37 : ∀ j, 0 ≤ τ_61.2.1 37 j ∧ τ_61.2.1 37 j ≤ 19999 := fun j => hT.2 37 j
          have A55 : ∀ j, 0 ≤ τ_61.2.1 55 j ∧ τ_61.2.1 55 j ≤ 19999 := fun j => hT.2 55 j
          have A56 : ∀ j, 0 ≤ τ_61.2.1 56 j ∧ τ_61.2.1 56 j ≤ 20000 := fun j => hT.2 56 j
          have A57 : ∀ j, 0 ≤ τ_61.2.1 57 j ∧ τ_61.2.1 57 j ≤ 20000 := fun j => hT.2 57 j
          have v44 : 0 ≤ τ_61.1 44 ∧ τ_61.1 44 ≤ 20000 := hT.1 44
          refine h61 n1 u2_61 u3_61 u4_61 u5_61 u6_61 τ_61 ?_
          refine ⟨fun c15 => ?_, fun c15 => ?_⟩
          ·
            exact l_101 _ _ _ _ _ hT (show τ_61.1 44 = σ.1 44 from by first | exact W44 | omega) G13 G28 G35 G36 G37 (show 0 ≤ u3_61 from by (first | omega | (simp only [st_s] <;> omega) | assumption | omega | fail)) (show u3_61 < n1 from by (first | omega | (simp only [st_s] <;> omega) | assumption | omega | fail)) (show 0 ≤ u2_61 from by (first | omega | (simp only [st_s] <;> omega) | assumption | omega | fail)) (show u2_61 < 32768 from by (first | omega | (simp only [st_s] <;> omega) | assumption | omega | fail)) (show J_sa u3_61 (τ_61.2.1 55) from by exact i61_5) (show J_hd u3_61 u2_61 (τ_61.2.1 55) (τ_61.2.1 56) (τ_61.2.1 57) from by exact i61_6) (show 0 ≤ u4_61 ∧ u4_61 ≤ u2_61 from by (first | omega | (simp only [st_s] <;> omega) | assumption | omega | fail)) (show 0 ≤ u5_61 ∧ u5_61 ≤ u3_61 from by (first | omega | (simp only [st_s] <;> omega) | assumption | omega | fail)) (show u3_61 + (m_35 : Int) ≥ 20001 from by (first | omega | (simp only [st_s] <;> omega) | assumption | omega | fail))
          ·
            refine ⟨fun c16 => ?_, fun c16 => ?_⟩
            ·
              exact l_101 _ _ _ _ _ hT (show τ_61.1 44 = σ.1 44 from by first | exact W44 | omega) G13 G28 G35 G36 G37 (show 0 ≤ u3_61 from by (first | omega | (simp only [st_s] <;> omega) | assumption | omega | fail)) (show u3_61 < n1 from by (first | omega | (simp only [st_s] <;> omega) | assumption | omega | fail)) (show 0 ≤ u2_61 from by (first | omega | (simp only [st_s] <;> omega) | assumption | omega | fail)) (show u2_61 < 32768 from by (first | omega | (simp only [st_s] <;> omega) | assumption | omega | fail)) (show J_sa u3_61 (τ_61.2.1 55) from by exact i61_5) (show J_hd u3_61 u2_61 (τ_61.2.1 55) (τ_61.2.1 56) (τ_61.2.1 57) from by exact i61_6) (show 0 ≤ u4_61 ∧ u4_61 ≤ u2_61 from by (first | omega | (simp only [st_s] <;> omega) | assumption | omega | fail)) (show 0 ≤ u5_61 ∧ u5_61 ≤ u3_61 from by (first | omega | (simp only [st_s] <;> omega) | assumption | omega | fail)) (show u3_61 + (m_35 : Int) ≥ 20001 from by (first | omega | (simp only [st_s] <;> omega) | assumption | omega | fail))
            ·
              refine ⟨(⟨by (first | omega | (simp only [st_s] <;> omega) | assumption | omega | fail), by (first | omega | (simp only [st_s] <;> omega) | assumption | omega | fail)⟩ : rg (u5_61 - 1)), ?_⟩
              have mo := J_pk_m pk f0 (r := u5_61 - 1) (by omega) (by omega)
              have mw := fun q => J_pk_w pk (r := u5_61 - 1) (s := u3_61) (by omega) (by omega) (by omega) (by omega) q
              have mc := A36 (σ.1 44 + u3_61 + 1)
              rw [G36] at mc
              have mm := J_pk_m pk f0 (r := u3_61) (by omega) (by omega)
              refine ⟨_, K_X4_isAlike hT (show 0 ≤ (u5_61 - 1) from by (first | omega | (simp only [st_s] <;> omega) | assumption | omega | fail)) (show (τ_61.1 44) + (u5_61 - 1) < 20000 from by (first | omega | (simp only [st_s] <;> omega) | assumption | omega | fail)) (show 0 ≤ u3_61 from by (first | omega | (simp only [st_s] <;> omega) | assumption | omega | fail)) (show (τ_61.1 44) + u3_61 < 20000 from by (first | omega | (simp only [st_s] <;> omega) | assumption | omega | fail)) (show τ_61.2.1 36 ((τ_61.1 44) + (u5_61 - 1)) ≤ τ_61.2.1 36 ((τ_61.1 44) + (u5_61 - 1) + 1) from by (rw [G36, W44]; exact mo)) (show τ_61.2.1 35 ((τ_61.1 44) + (u5_61 - 1)) = τ_61.2.1 35 ((τ_61.1 44) + u3_61) → τ_61.2.1 36 ((τ_61.1 44) + u3_61) + (τ_61.2.1 36 ((τ_61.1 44) + (u5_61 - 1) + 1) - τ_61.2.1 36 ((τ_61.1 44) + (u5_61 - 1))) ≤ 20000 from by (rw [G35, G36, W44]; intro q; have := mw q; omega)), ?_⟩
              intro x19 r_x19 hq
              have q18_1 := hq
              replace q18_1 : 0 ≤ x19 ∧ x19 ≤ 1 := q18_1
              refine ⟨fun c21 => ?_, fun c21 => ?_⟩
              ·
                exact l_101 _ _ _ _ _ hT (show τ_61.1 44 = σ.1 44 from by first | exact W44 | omega) G13 G28 G35 G36 G37 (show 0 ≤ u3_61 from by (first | omega | (simp only [st_s] <;> omega) | assumption | omega | fail)) (show u3_61 < n1 from by (first | omega | (simp only [st_s] <;> omega) | assumption | omega | fail)) (show 0 ≤ u2_61 from by (first | omega | (simp only [st_s] <;> omega) | assumption | omega | fail)) (show u2_61 < 32768 from by (first | omega | (simp only [st_s] <;> omega) | assumption | omega | fail)) (show J_sa u3_61 (τ_61.2.1 55) from by exact i61_5) (show J_hd u3_61 u2_61 (τ_61.2.1 55) (τ_61.2.1 56) (τ_61.2.1 57) from by exact i61_6) (show 0 ≤ u4_61 ∧ u4_61 ≤ u2_61 from by (first | omega | (simp only [st_s] <;> omega) | assumption | omega | fail)) (show 0 ≤ u5_61 ∧ u5_61 ≤ u3_61 from by (first | omega | (simp only [st_s] <;> omega) | assumption | omega | fail)) (show u3_61 + (m_35 : Int) ≥ 20001 from by (first | omega | (simp only [st_s] <;> omega) | assumption | omega | fail))
              ·
                refine ⟨(show 0 ≤ (u5_61 - 1) ∧ (u5_61 - 1) < 20000 from by (first | omega | (simp only [st_s] <;> omega) | assumption | omega | fail)), ?_⟩
                intro x23 r_x23 e_x23
                have b_x23 : 0 ≤ x23 ∧ x23 ≤ 20000 := by rw [e_x23]; exact hT.2 57 _
                have hx := i61_6.2 (u5_61 - 1) (by omega) (by omega) (i61_9 (by omega))
                rw [← e_x23] at hx
                refine ⟨(⟨by (first | omega | (simp only [st_s] <;> omega) | assumption | omega | fail), by (first | omega | (simp only [st_s] <;> omega) | assumption | omega | fail)⟩ : rg (u6_61 + 1)), ?_⟩
                exact ih_61 _ _ _ _ _ _ (show (20001 - (u6_61 + 1) : Int) < ((m_61 : Nat) : Int) from by ((first | omega | (simp only [st_s] <;> omega) | assumption | omega | fail))) hT (show τ_61.1 44 = σ.1 44 from by first | exact W44 | omega) G13 G28 G35 G36 G37 (show 0 ≤ u3_61 from by (first | omega | (simp only [st_s] <;> omega) | assumption | omega | fail)) (show u3_61 < n1 from by (first | omega | (simp only [st_s] <;> omega) | assumption | omega | fail)) (show 0 ≤ u2_61 from by (first | omega | (simp only [st_s] <;> omega) | assumption | omega | fail)) (show u2_61 < 32768 from by (first | omega | (simp only [st_s] <;> omega) | assumption | omega | fail)) (show J_sa u3_61 (τ_61.2.1 55) from by (first | exact i35_5 | exact i61_5 | fail)) (show J_hd u3_61 u2_61 (τ_61.2.1 55) (τ_61.2.1 56) (τ_61.2.1 57) from by (first | exact i35_6 | exact i61_6 | fail)) (show 0 ≤ u4_61 ∧ u4_61 ≤ u2_61 from by (first | omega | (simp only [st_s] <;> omega) | assumption | omega | fail)) (show 0 ≤ x23 ∧ x23 ≤ u3_61 from by (first | omega | (simp only [st_s] <;> omega) | assumption | omega | fail)) (show 0 < x23 → τ_61.2.1 55 (x23 - 1) = x23 - 1 from by (first | exact hd.2 | exact hx.2 | fail)) (show 0 ≤ (u6_61 + 1) ∧ (u6_61 + 1) ≤ 20000 from by (first | omega | (simp only [st_s] <;> omega) | assumption | omega | fail)) (show u3_61 + (m_35 : Int) ≥ 20001 from by (first | omega | (simp only [st_s] <;> omega) | assumption | omega | fail))
      refine h35 n1 u2_35 u3_35 τ_35 ?_
      refine ⟨fun c8 => ?_, fun c8 => ?_⟩
      ·
        exact ⟨hT, (show J_sa n1 (τ_35.2.1 55) from by (rw [show n1 = u3_35 from by omega]; exact i35_5))⟩
      ·
        refine ⟨_, K_X4_hash hT (show 0 ≤ u3_35 from by (first | omega | (simp only [st_s] <;> omega) | assumption | omega | fail)) (show (τ_35.1 44) + u3_35 < 20000 from by (first | omega | (simp only [st_s] <;> omega) | assumption | omega | fail)), ?_⟩
        intro x10 r_x10 hq
        intro x12 r_x12 h1_x12
        refine ⟨(show 0 ≤ x12 ∧ x12 < 32768 from by (first | omega | (simp only [st_s] <;> omega) | assumption | omega | fail)), ?_⟩
        intro x14 r_x14 e_x14
        have b_x14 : 0 ≤ x14 ∧ x14 ≤ 20000 := by rw [e_x14]; exact hT.2 56 _
        have hd := i35_6.1 x12 (by omega) (by omega)
        rw [← e_x14] at hd
        exact l_61 ((20001 - 0 : Int).toNat + 1) _ _ _ _ _ _ (show (20001 - 0 : Int) < (((20001 - 0 : Int).toNat + 1 : Nat) : Int) from by ((first | omega | (simp only [st_s] <;> omega) | assumption | omega | fail))) hT (show τ_35.1 44 = σ.1 44 from by first | exact W44 | omega) G13 G28 G35 G36 G37 (show 0 ≤ u3_35 from by (first | omega | (simp only [st_s] <;> omega) | assumption | omega | fail)) (show u3_35 < n1 from by (first | omega | (simp only [st_s] <;> omega) | assumption | omega | fail)) (show 0 ≤ u2_35 from by (first | omega | (simp only [st_s] <;> omega) | assumption | omega | fail)) (show u2_35 < 32768 from by (first | omega | (simp only [st_s] <;> omega) | assumption | omega | fail)) (show J_sa u3_35 (τ_35.2.1 55) from by (first | exact i35_5 | exact i61_5 | fail)) (show J_hd u3_35 u2_35 (τ_35.2.1 55) (τ_35.2.1 56) (τ_35.2.1 57) from by (first | exact i35_6 | exact i61_6 | fail)) (show 0 ≤ x12 ∧ x12 ≤ u2_35 from by (first | omega | (simp only [st_s] <;> omega) | assumption | omega | fail)) (show 0 ≤ x14 ∧ x14 ≤ u3_35 from by (first | omega | (simp only [st_s] <;> omega) | assumption | omega | fail)) (show 0 < x14 → τ_35.2.1 55 (x14 - 1) = x14 - 1 from by (first | exact hd.2 | exact hx.2 | fail)) (show 0 ≤ 0 ∧ 0 ≤ 20000 from by (first | omega | (simp only [st_s] <;> omega) | assumption | omega | fail)) (show u3_35 + (m_35 : Int) ≥ 20001 from by (first | omega | (simp only [st_s] <;> omega) | assumption | omega | fail))
  have l_2 : ∀ (m_2 : Nat) (u2_2 : Int) (τ_2 : S0), 32769 - u2_2 < (m_2 : Int) → (c_T τ_2) → (τ_2.1 44 = σ.1 44) → (τ_2.2.1 13 = σ.2.1 13) → (τ_2.2.1 28 = σ.2.1 28) → (τ_2.2.1 35 = σ.2.1 35) → (τ_2.2.1 36 = σ.2.1 36) → (τ_2.2.1 37 = σ.2.1 37) → (1 ≤ u2_2) → (u2_2 ≤ 32768) → (u2_2 = 1 ∨ u2_2 = 2 ∨ u2_2 = 4 ∨ u2_2 = 8 ∨ u2_2 = 16 ∨ u2_2 = 32 ∨ u2_2 = 64 ∨ u2_2 = 128 ∨ u2_2 = 256 ∨ u2_2 = 512 ∨ u2_2 = 1024 ∨ u2_2 = 2048 ∨ u2_2 = 4096 ∨ u2_2 = 8192 ∨ u2_2 = 16384 ∨ u2_2 = 32768) → P2 n1 u2_2 τ_2 := by
    intro m_2
    induction m_2 with
    | zero =>
      intro u2_2 τ_2 hm hT W44 G13 G28 G35 G36 G37 i2_1 i2_2 i2_3
      have A13 : ∀ j, 0 ≤ τ_2.2.1 13 j ∧ τ_2.2.1 13 j ≤ 4 := fun j => hT.2 13 j
      have A28 : ∀ j, 0 ≤ τ_2.2.1 28 j ∧ τ_2.2.1 28 j ≤ 60 := fun j => hT.2 28 j
      have A35 : ∀ j, 0 ≤ τ_2.2.1 35 j ∧ τ_2.2.1 35 j ≤ 1499 := fun j => hT.2 35 j
      have A36 : ∀ j, 0 ≤ τ_2.2.1 36 j ∧ τ_2.2.1 36 j ≤ 20000 := fun j => hT.2 36 j
      have A37 : ∀ j, 0 ≤ τ_2.2.1 37 j ∧ τ_2.2.1 37 j ≤ 19999 := fun j => hT.2 37 j
      have A55 : ∀ j, 0 ≤ τ_2.2.1 55 j ∧ τ_2.2.1 55 j ≤ 19999 := fun j => hT.2 55 j
      have A56 : ∀ j, 0 ≤ τ_2.2.1 56 j ∧ τ_2.2.1 56 j ≤ 20000 := fun j => hT.2 56 j
      have A57 : ∀ j, 0 ≤ τ_2.2.1 57 j ∧ τ_2.2.1 57 j ≤ 20000 := fun j => hT.2 57 j
      have v44 : 0 ≤ τ_2.1 44 ∧ τ_2.1 44 ≤ 20000 := hT.1 44
      exfalso; (first | omega | (simp only [st_s] <;> omega) | assumption | omega | fail)
    | succ m_2 ih_2 =>
      intro u2_2 τ_2 hm_2 hT W44 G13 G28 G35 G36 G37 i2_1 i2_2 i2_3
      have A13 : ∀ j, 0 ≤ τ_2.2.1 13 j ∧ τ_2.2.1 13 j ≤ 4 := fun j => hT.2 13 j
      have A28 : ∀ j, 0 ≤ τ_2.2.1 28 j ∧ τ_2.2.1 28 j ≤ 60 := fun j => hT.2 28 j
      have A35 : ∀ j, 0 ≤ τ_2.2.1 35 j ∧ τ_2.2.1 35 j ≤ 1499 := fun j => hT.2 35 j
      have A36 : ∀ j, 0 ≤ τ_2.2.1 36 j ∧ τ_2.2.1 36 j ≤ 20000 := fun j => hT.2 36 j
      have A37 : ∀ j, 0 ≤ τ_2.2.1 37 j ∧ τ_2.2.1 37 j ≤ 19999 := fun j => hT.2 37 j
      have A55 : ∀ j, 0 ≤ τ_2.2.1 55 j ∧ τ_2.2.1 55 j ≤ 19999 := fun j => hT.2 55 j
      have A56 : ∀ j, 0 ≤ τ_2.2.1 56 j ∧ τ_2.2.1 56 j ≤ 20000 := fun j => hT.2 56 j
      have A57 : ∀ j, 0 ≤ τ_2.2.1 57 j ∧ τ_2.2.1 57 j ≤ 20000 := fun j => hT.2 57 j
      have v44 : 0 ≤ τ_2.1 44 ∧ τ_2.1 44 ≤ 20000 := hT.1 44
      refine h2 n1 u2_2 τ_2 ?_
      refine ⟨fun c1 => ?_, fun c1 => ?_⟩
      ·
        refine h20 _ _ _ ?_
        refine ⟨_, K_J7_fill_fda19_q72 hT (show 0 ≤ (0 : Int) from by omega) (show (0 : Int) ≤ u2_2 from by (first | omega | (simp only [st_s] <;> omega) | assumption | omega | fail)) (show u2_2 ≤ 32768 from by (first | omega | (simp only [st_s] <;> omega) | assumption | omega | fail)) (show (0 : Int) = 0 from by (first | omega | (simp only [st_s] <;> omega) | assumption | omega | fail)), ?_⟩
        intro τ6 hn_τ6 hf_τ6 hq
        obtain ⟨hT, q4_1⟩ := hq
        replace q4_1 : ∀ e : Int, (0 : Int) ≤ e → e < u2_2 → τ6.2.1 56 e = (0 : Int) := q4_1
        have w44_τ6 : τ6.1 44 = τ_2.1 44 := hf_τ6.1 44 (by decide)
        have g13_τ6 : τ6.2.1 13 = τ_2.2.1 13 := hf_τ6.2.1 13 (by decide)
        have g28_τ6 : τ6.2.1 28 = τ_2.2.1 28 := hf_τ6.2.1 28 (by decide)
        have g35_τ6 : τ6.2.1 35 = τ_2.2.1 35 := hf_τ6.2.1 35 (by decide)
        have g36_τ6 : τ6.2.1 36 = τ_2.2.1 36 := hf_τ6.2.1 36 (by decide)
        have g37_τ6 : τ6.2.1 37 = τ_2.2.1 37 := hf_τ6.2.1 37 (by decide)
        have g55_τ6 : τ6.2.1 55 = τ_2.2.1 55 := hf_τ6.2.1 55 (by decide)
        have g57_τ6 : τ6.2.1 57 = τ_2.2.1 57 := hf_τ6.2.1 57 (by decide)
        have W44 : τ6.1 44 = σ.1 44 := by first | exact w44_τ6.trans W44 | omega
        have G13 : τ6.2.1 13 = σ.2.1 13 := (g13_τ6).trans G13
        have G28 : τ6.2.1 28 = σ.2.1 28 := (g28_τ6).trans G28
        have G35 : τ6.2.1 35 = σ.2.1 35 := (g35_τ6).trans G35
        have G36 : τ6.2.1 36 = σ.2.1 36 := (g36_τ6).trans G36
        have G37 : τ6.2.1 37 = σ.2.1 37 := (g37_τ6).trans G37
        have A13 : ∀ j, 0 ≤ τ6.2.1 13 j ∧ τ6.2.1 13 j ≤ 4 := fun j => hT.2 13 j
        have A28 : ∀ j, 0 ≤ τ6.2.1 28 j ∧ τ6.2.1 28 j ≤ 60 := fun j => hT.2 28 j
        have A35 : ∀ j, 0 ≤ τ6.2.1 35 j ∧ τ6.2.1 35 j ≤ 1499 := fun j => hT.2 35 j
        have A36 : ∀ j, 0 ≤ τ6.2.1 36 j ∧ τ6.2.1 36 j ≤ 20000 := fun j => hT.2 36 j
        have A37 : ∀ j, 0 ≤ τ6.2.1 37 j ∧ τ6.2.1 37 j ≤ 19999 := fun j => hT.2 37 j
        have A55 : ∀ j, 0 ≤ τ6.2.1 55 j ∧ τ6.2.1 55 j ≤ 19999 := fun j => hT.2 55 j
        have A56 : ∀ j, 0 ≤ τ6.2.1 56 j ∧ τ6.2.1 56 j ≤ 20000 := fun j => hT.2 56 j
        have A57 : ∀ j, 0 ≤ τ6.2.1 57 j ∧ τ6.2.1 57 j ≤ 20000 := fun j => hT.2 57 j
        have v44 : 0 ≤ τ6.1 44 ∧ τ6.1 44 ≤ 20000 := hT.1 44
        refine ⟨(⟨by (first | omega | (simp only [st_s] <;> omega) | assumption | omega | fail), by (first | omega | (simp only [st_s] <;> omega) | assumption | omega | fail)⟩ : rg (u2_2 + (-1))), ?_⟩
        exact l_35 ((20001 - 0 : Int).toNat + 1) _ _ _ (show (20001 - 0 : Int) < (((20001 - 0 : Int).toNat + 1 : Nat) : Int) from by ((first | omega | (simp only [st_s] <;> omega) | assumption | omega | fail))) hT (show τ6.1 44 = σ.1 44 from by first | exact W44 | omega) G13 G28 G35 G36 G37 (show 0 ≤ 0 from by (first | omega | (simp only [st_s] <;> omega) | assumption | omega | fail)) (show 0 ≤ n1 from by (first | omega | (simp only [st_s] <;> omega) | assumption | omega | fail)) (show 0 ≤ (u2_2 + (-1)) from by (first | omega | (simp only [st_s] <;> omega) | assumption | omega | fail)) (show (u2_2 + (-1)) < 32768 from by (first | omega | (simp only [st_s] <;> omega) | assumption | omega | fail)) (show J_sa 0 (τ6.2.1 55) from by (first | (intro r a b; exfalso; omega) | exact J_sa_a i101_5 (by omega) (by omega) | (rw [st_st]; exact J_sa_a i101_5 (by omega) (by omega)) | fail)) (show J_hd 0 (u2_2 + (-1)) (τ6.2.1 55) (τ6.2.1 56) (τ6.2.1 57) from by (first | (refine ⟨fun b b0 b1 => ?_, fun r a b => by omega⟩; rw [q4_1 b b0 (by omega)]; exact ⟨by omega, fun q => by omega⟩) | (rw [e_x28]; exact J_hd_n i101_6 (by omega) (by omega) (by omega) (fun j => (A56 j).1) (fun j => (A57 j).1)) | (rw [st_st]; exact J_hd_d i101_6 (by omega)) | fail))
      ·
        refine ⟨fun c2 => ?_, fun c2 => ?_⟩
        ·
          refine h20 _ _ _ ?_
          refine ⟨_, K_J7_fill_fda19_q72 hT (show 0 ≤ (0 : Int) from by omega) (show (0 : Int) ≤ u2_2 from by (first | omega | (simp only [st_s] <;> omega) | assumption | omega | fail)) (show u2_2 ≤ 32768 from by (first | omega | (simp only [st_s] <;> omega) | assumption | omega | fail)) (show (0 : Int) = 0 from by (first | omega | (simp only [st_s] <;> omega) | assumption | omega | fail)), ?_⟩
          intro τ6 hn_τ6 hf_τ6 hq
          obtain ⟨hT, q4_1⟩ := hq
          replace q4_1 : ∀ e : Int, (0 : Int) ≤ e → e < u2_2 → τ6.2.1 56 e = (0 : Int) := q4_1
          have w44_τ6 : τ6.1 44 = τ_2.1 44 := hf_τ6.1 44 (by decide)
          have g13_τ6 : τ6.2.1 13 = τ_2.2.1 13 := hf_τ6.2.1 13 (by decide)
          have g28_τ6 : τ6.2.1 28 = τ_2.2.1 28 := hf_τ6.2.1 28 (by decide)
          have g35_τ6 : τ6.2.1 35 = τ_2.2.1 35 := hf_τ6.2.1 35 (by decide)
          have g36_τ6 : τ6.2.1 36 = τ_2.2.1 36 := hf_τ6.2.1 36 (by decide)
          have g37_τ6 : τ6.2.1 37 = τ_2.2.1 37 := hf_τ6.2.1 37 (by decide)
          have g55_τ6 : τ6.2.1 55 = τ_2.2.1 55 := hf_τ6.2.1 55 (by decide)
          have g57_τ6 : τ6.2.1 57 = τ_2.2.1 57 := hf_τ6.2.1 57 (by decide)
          have W44 : τ6.1 44 = σ.1 44 := by first | exact w44_τ6.trans W44 | omega
          have G13 : τ6.2.1 13 = σ.2.1 13 := (g13_τ6).trans G13
          have G28 : τ6.2.1 28 = σ.2.1 28 := (g28_τ6).trans G28
          have G35 : τ6.2.1 35 = σ.2.1 35 := (g35_τ6).trans G35
          have G36 : τ6.2.1 36 = σ.2.1 36 := (g36_τ6).trans G36
          have G37 : τ6.2.1 37 = σ.2.1 37 := (g37_τ6).trans G37
          have A13 : ∀ j, 0 ≤ τ6.2.1 13 j ∧ τ6.2.1 13 j ≤ 4 := fun j => hT.2 13 j
          have A28 : ∀ j, 0 ≤ τ6.2.1 28 j ∧ τ6.2.1 28 j ≤ 60 := fun j => hT.2 28 j
          have A35 : ∀ j, 0 ≤ τ6.2.1 35 j ∧ τ6.2.1 35 j ≤ 1499 := fun j => hT.2 35 j
          have A36 : ∀ j, 0 ≤ τ6.2.1 36 j ∧ τ6.2.1 36 j ≤ 20000 := fun j => hT.2 36 j
          have A37 : ∀ j, 0 ≤ τ6.2.1 37 j ∧ τ6.2.1 37 j ≤ 19999 := fun j => hT.2 37 j
          have A55 : ∀ j, 0 ≤ τ6.2.1 55 j ∧ τ6.2.1 55 j ≤ 19999 := fun j => hT.2 55 j
          have A56 : ∀ j, 0 ≤ τ6.2.1 56 j ∧ τ6.2.1 56 j ≤ 20000 := fun j => hT.2 56 j
          have A57 : ∀ j, 0 ≤ τ6.2.1 57 j ∧ τ6.2.1 57 j ≤ 20000 := fun j => hT.2 57 j
          have v44 : 0 ≤ τ6.1 44 ∧ τ6.1 44 ≤ 20000 := hT.1 44
          refine ⟨(⟨by (first | omega | (simp only [st_s] <;> omega) | assumption | omega | fail), by (first | omega | (simp only [st_s] <;> omega) | assumption | omega | fail)⟩ : rg (u2_2 + (-1))), ?_⟩
          exact l_35 ((20001 - 0 : Int).toNat + 1) _ _ _ (show (20001 - 0 : Int) < (((20001 - 0 : Int).toNat + 1 : Nat) : Int) from by ((first | omega | (simp only [st_s] <;> omega) | assumption | omega | fail))) hT (show τ6.1 44 = σ.1 44 from by first | exact W44 | omega) G13 G28 G35 G36 G37 (show 0 ≤ 0 from by (first | omega | (simp only [st_s] <;> omega) | assumption | omega | fail)) (show 0 ≤ n1 from by (first | omega | (simp only [st_s] <;> omega) | assumption | omega | fail)) (show 0 ≤ (u2_2 + (-1)) from by (first | omega | (simp only [st_s] <;> omega) | assumption | omega | fail)) (show (u2_2 + (-1)) < 32768 from by (first | omega | (simp only [st_s] <;> omega) | assumption | omega | fail)) (show J_sa 0 (τ6.2.1 55) from by (first | (intro r a b; exfalso; omega) | exact J_sa_a i101_5 (by omega) (by omega) | (rw [st_st]; exact J_sa_a i101_5 (by omega) (by omega)) | fail)) (show J_hd 0 (u2_2 + (-1)) (τ6.2.1 55) (τ6.2.1 56) (τ6.2.1 57) from by (first | (refine ⟨fun b b0 b1 => ?_, fun r a b => by omega⟩; rw [q4_1 b b0 (by omega)]; exact ⟨by omega, fun q => by omega⟩) | (rw [e_x28]; exact J_hd_n i101_6 (by omega) (by omega) (by omega) (fun j => (A56 j).1) (fun j => (A57 j).1)) | (rw [st_st]; exact J_hd_d i101_6 (by omega)) | fail))
        ·
          refine ⟨(⟨by (first | omega | (simp only [st_s] <;> omega) | assumption | omega | fail), by (first | omega | (simp only [st_s] <;> omega) | assumption | omega | fail)⟩ : rg (u2_2 * 2)), ?_⟩
          exact ih_2 _ _ (show (32769 - (u2_2 * 2) : Int) < ((m_2 : Nat) : Int) from by ((first | omega | (simp only [st_s] <;> omega) | assumption | omega | fail))) hT (show τ_2.1 44 = σ.1 44 from by first | exact W44 | omega) G13 G28 G35 G36 G37 (show 1 ≤ (u2_2 * 2) from by (first | omega | (simp only [st_s] <;> omega) | assumption | omega | fail)) (show (u2_2 * 2) ≤ 32768 from by (first | omega | (simp only [st_s] <;> omega) | assumption | omega | fail)) (show (u2_2 * 2) = 1 ∨ (u2_2 * 2) = 2 ∨ (u2_2 * 2) = 4 ∨ (u2_2 * 2) = 8 ∨ (u2_2 * 2) = 16 ∨ (u2_2 * 2) = 32 ∨ (u2_2 * 2) = 64 ∨ (u2_2 * 2) = 128 ∨ (u2_2 * 2) = 256 ∨ (u2_2 * 2) = 512 ∨ (u2_2 * 2) = 1024 ∨ (u2_2 * 2) = 2048 ∨ (u2_2 * 2) = 4096 ∨ (u2_2 * 2) = 8192 ∨ (u2_2 * 2) = 16384 ∨ (u2_2 * 2) = 32768 from by (first | omega | (simp only [st_s] <;> omega) | assumption | omega | fail))
  exact l_2 ((32769 - 1 : Int).toNat + 1) _ _ (show (32769 - 1 : Int) < (((32769 - 1 : Int).toNat + 1 : Nat) : Int) from by ((first | omega | (simp only [st_s] <;> omega) | assumption | omega | fail))) hT (show σ.1 44 = σ.1 44 from by first | exact W44 | omega) G13 G28 G35 G36 G37 (show 1 ≤ 1 from by (first | omega | (simp only [st_s] <;> omega) | assumption | omega | fail)) (show 1 ≤ 32768 from by (first | omega | (simp only [st_s] <;> omega) | assumption | omega | fail)) (show 1 = 1 ∨ 1 = 2 ∨ 1 = 4 ∨ 1 = 8 ∨ 1 = 16 ∨ 1 = 32 ∨ 1 = 64 ∨ 1 = 128 ∨ 1 = 256 ∨ 1 = 512 ∨ 1 = 1024 ∨ 1 = 2048 ∨ 1 = 4096 ∨ 1 = 8192 ∨ 1 = 16384 ∨ 1 = 32768 from by (first | omega | (simp only [st_s] <;> omega) | assumption | omega | fail))
set_option maxHeartbeats 1000000 in
theorem K_J7_fill_fda19_q74 {n1 : Int} {n2 : Int} {n3 : Int} {σ : S0} (hT : c_T σ) (p1 : 0 ≤ n1) (p2 : n1 ≤ n2) (p3 : n2 ≤ 20000) (p4 : n3 = 0) : W_J7_fill_fda19_q74 n1 n2 n3 σ (fun (τ : S0) => (c_T τ) ∧ (∀ e : Int, n1 ≤ e → e < n2 → τ.2.1 58 e = n3)) := by
  intro P10 h10
  have l_10 : ∀ (m_10 : Nat) (u4_10 : Int) (τ_10 : S0), 20001 + 20001 - u4_10 < (m_10 : Int) → (c_T τ_10) → (n1 ≤ u4_10) → (u4_10 ≤ n2) → (∀ e : Int, n1 ≤ e → e < u4_10 → τ_10.2.1 58 e = n3) → P10 n2 n3 u4_10 τ_10 := by
    intro m_10
    induction m_10 with
    | zero =>
      intro u4_10 τ_10 hm hT i10_1 i10_2 i10_3
      exfalso; (first | omega | (simp only [st_s] <;> omega) | assumption | omega | fail)
    | succ m_10 ih_10 =>
      intro u4_10 τ_10 hm_10 hT i10_1 i10_2 i10_3
      refine h10 n2 n3 u4_10 τ_10 ?_
      refine ⟨fun c4 => ?_, fun c4 => ?_⟩
      ·
        exact ⟨hT, (show ∀ e : Int, n1 ≤ e → e < n2 → τ_10.2.1 58 e = n3 from by exact fun e a b => i10_3 e a (by omega))⟩
      ·
        refine ⟨(show 0 ≤ u4_10 ∧ u4_10 < 20000 from by (first | omega | (simp only [st_s] <;> omega) | assumption | omega | fail)), ?_⟩
        replace hT := cT_a (k := 58) (j := u4_10) hT (show (-2147483648 : Int) ≤ n3 ∧ n3 ≤ 2147483647 from by (first | omega | (simp only [st_s] <;> omega) | assumption | omega | fail))
        refine ⟨(⟨by (first | omega | (simp only [st_s] <;> omega) | assumption | omega | fail), by (first | omega | (simp only [st_s] <;> omega) | assumption | omega | fail)⟩ : rg (u4_10 + 1)), ?_⟩
        exact ih_10 _ _ (show (20001 + 20001 - (u4_10 + 1) : Int) < ((m_10 : Nat) : Int) from by ((first | omega | (simp only [st_s] <;> omega) | assumption | omega | fail))) hT (show n1 ≤ (u4_10 + 1) from by (first | omega | (simp only [st_s] <;> omega) | assumption | omega | fail)) (show (u4_10 + 1) ≤ n2 from by (first | omega | (simp only [st_s] <;> omega) | assumption | omega | fail)) (show ∀ e : Int, n1 ≤ e → e < (u4_10 + 1) → (st (τ_10.2.1 58) u4_10 n3) e = n3 from by (first | (intro e a b; exfalso; omega) | (intro e a b; by_cases z : e = u4_10; (rw [z, st_s]); exact (st_n _ _ z).trans (i10_3 e a (by omega))) | fail))
  refine ⟨_, K_J7_rangeCheck_23922 hT (show 0 ≤ n1 from by (first | omega | (simp only [st_s] <;> omega) | assumption | omega | fail)) (show n1 ≤ n2 from by (first | omega | (simp only [st_s] <;> omega) | assumption | omega | fail)) (show n2 ≤ (20000 : Int) from by (first | omega | (simp only [st_s] <;> omega) | assumption | omega | fail)), ?_⟩
  intro τ3 hn_τ3 hf_τ3 hq
  replace hT := hq
  exact l_10 ((20001 + 20001 - n1 : Int).toNat + 1) _ _ (show (20001 + 20001 - n1 : Int) < (((20001 + 20001 - n1 : Int).toNat + 1 : Nat) : Int) from by ((first | omega | (simp only [st_s] <;> omega) | assumption | omega | fail))) hT (show n1 ≤ n1 from by (first | omega | (simp only [st_s] <;> omega) | assumption | omega | fail)) (show n1 ≤ n2 from by (first | omega | (simp only [st_s] <;> omega) | assumption | omega | fail)) (show ∀ e : Int, n1 ≤ e → e < n1 → τ3.2.1 58 e = n3 from by (first | (intro e a b; exfalso; omega) | (intro e a b; by_cases z : e = u4_10; (rw [z, st_s]); exact (st_n _ _ z).trans (i10_3 e a (by omega))) | fail))
set_option maxHeartbeats 1000000 in
theorem K_X4_tell {n1 : Int} {σ : S0} (hT : c_T σ) (p1 : -20000 ≤ n1) (p2 : n1 ≤ 19999) : W_X4_tell n1 σ (fun (τ : S0) => (c_T τ) ∧ (20001 ≤ (σ.1 41) → τ.2.1 62 = σ.2.1 62 ∧ (τ.1 41) = (σ.1 41)) ∧ ((σ.1 41) < 20001 → τ.2.1 62 = st (σ.2.1 62) (σ.1 41) n1 ∧ (τ.1 41) = (σ.1 41) + 1)) := by
  have A62 : ∀ j, (-20000) ≤ σ.2.1 62 j ∧ σ.2.1 62 j ≤ 19999 := fun j => hT.2 62 j
  have v41 : 0 ≤ σ.1 41 ∧ σ.1 41 ≤ 20001 := hT.1 41
  unfold W_X4_tell
  refine ⟨fun c1 => ?_, fun c1 => ?_⟩
  ·
    exact ⟨hT, (show 20001 ≤ (σ.1 41) → σ.2.1 62 = σ.2.1 62 ∧ (σ.1 41) = (σ.1 41) from by (first | (intro z; exfalso; omega) | exact fun _ => ⟨rfl, rfl⟩ | fail)), (show (σ.1 41) < 20001 → σ.2.1 62 = st (σ.2.1 62) (σ.1 41) n1 ∧ (σ.1 41) = (σ.1 41) + 1 from by (first | (intro z; exfalso; omega) | exact fun _ => ⟨rfl, rfl⟩ | fail))⟩
  ·
    refine ⟨(show 0 ≤ σ.1 41 ∧ σ.1 41 < 20001 from by (first | omega | (simp only [st_s] <;> omega) | assumption | omega | fail)), ?_⟩
    replace hT := cT_a (k := 62) (j := (σ.1 41)) hT (show (-20000 : Int) ≤ n1 ∧ n1 ≤ 19999 from by (first | omega | (simp only [st_s] <;> omega) | assumption | omega | fail))
    refine ⟨(⟨by (first | omega | (simp only [st_s] <;> omega) | assumption | omega | fail), by (first | omega | (simp only [st_s] <;> omega) | assumption | omega | fail)⟩ : rg (σ.1 41 + 1)), ?_⟩
    replace hT := cT_v (i := 41) hT (show 0 ≤ (σ.1 41 + 1) ∧ (σ.1 41 + 1) ≤ 20001 from by (first | omega | (simp only [st_s] <;> omega) | assumption | omega | fail))
    exact ⟨hT, (show 20001 ≤ (σ.1 41) → (st (σ.2.1 62) (σ.1 41) n1) = σ.2.1 62 ∧ ((σ.1 41 + 1)) = (σ.1 41) from by (first | (intro z; exfalso; omega) | exact fun _ => ⟨rfl, rfl⟩ | fail)), (show (σ.1 41) < 20001 → (st (σ.2.1 62) (σ.1 41) n1) = st (σ.2.1 62) (σ.1 41) n1 ∧ ((σ.1 41 + 1)) = (σ.1 41) + 1 from by (first | (intro z; exfalso; omega) | exact fun _ => ⟨rfl, rfl⟩ | fail))⟩
set_option maxHeartbeats 1000000 in
theorem K_X4_enter {n1 : Int} {n2 : Int} {σ : S0} (hT : c_T σ) (p1 : 0 ≤ n1) (p2 : (σ.1 44) + n1 < (σ.1 15)) (p3 : 0 ≤ n2 ∧ n2 ≤ 1) (p4 : σ.2.1 36 ((σ.1 44) + n1) ≤ σ.2.1 36 ((σ.1 44) + n1 + 1)) (p5 : J_tr (σ.1 41) ((σ.1 15) - 1 - (σ.1 44)) (σ.1 44) (σ.2.1 62) (σ.2.1 55) (σ.2.1 36)) (p6 : ¬ n2 = 0 → J_c1 (σ.2.1 55 n1) (σ.1 41) ((σ.1 15) - 1 - (σ.1 44)) (σ.1 44) (σ.2.1 62) (σ.2.1 55) (σ.2.1 36) (σ.2.1 58)) (p7 : ¬ n2 = 0 → σ.2.1 58 (σ.2.1 55 n1) ≤ 2000000) : W_X4_enter n1 n2 σ (fun (τ : S0) => (c_T τ) ∧ (J_tr (τ.1 41) ((τ.1 15) - 1 - (τ.1 44)) (τ.1 44) (τ.2.1 62) (τ.2.1 55) (τ.2.1 36)) ∧ (∀ r : Int, (J_c1 r (σ.1 41) ((σ.1 15) - 1 - (σ.1 44)) (σ.1 44) (σ.2.1 62) (σ.2.1 55) (σ.2.1 36) (σ.2.1 58)) → J_c1 r (τ.1 41) ((τ.1 15) - 1 - (τ.1 44)) (τ.1 44) (τ.2.1 62) (τ.2.1 55) (τ.2.1 36) (τ.2.1 58)) ∧ (∀ r : Int, τ.2.1 58 r ≤ σ.2.1 58 r + 1) ∧ (∀ B : Int, n1 ≤ B → (∀ p : Int, 0 ≤ p → p < (σ.1 42) → σ.2.1 63 p ≤ B ∧ σ.2.1 36 ((σ.1 44) + σ.2.1 63 p) < σ.2.1 36 ((σ.1 44) + σ.2.1 63 p + 1)) → ∀ p : Int, 0 ≤ p → p < (τ.1 42) → τ.2.1 63 p ≤ B ∧ τ.2.1 36 ((τ.1 44) + τ.2.1 63 p) < τ.2.1 36 ((τ.1 44) + τ.2.1 63 p + 1)) ∧ (n2 = 0 → (∀ n : Int, 0 ≤ n → n < (σ.1 41) → 0 ≤ σ.2.1 62 n) → ∀ n : Int, 0 ≤ n → n < (τ.1 41) → 0 ≤ τ.2.1 62 n)) := by
  have A35 : ∀ j, 0 ≤ σ.2.1 35 j ∧ σ.2.1 35 j ≤ 1499 := fun j => hT.2 35 j
  have A36 : ∀ j, 0 ≤ σ.2.1 36 j ∧ σ.2.1 36 j ≤ 20000 := fun j => hT.2 36 j
  have A55 : ∀ j, 0 ≤ σ.2.1 55 j ∧ σ.2.1 55 j ≤ 19999 := fun j => hT.2 55 j
  have A58 : ∀ j, (-2147483648) ≤ σ.2.1 58 j ∧ σ.2.1 58 j ≤ 2147483647 := fun j => hT.2 58 j
  have A62 : ∀ j, (-20000) ≤ σ.2.1 62 j ∧ σ.2.1 62 j ≤ 19999 := fun j => hT.2 62 j
  have A63 : ∀ j, 0 ≤ σ.2.1 63 j ∧ σ.2.1 63 j ≤ 19999 := fun j => hT.2 63 j
  have A64 : ∀ j, 0 ≤ σ.2.1 64 j ∧ σ.2.1 64 j ≤ 20000 := fun j => hT.2 64 j
  have v15 : 0 ≤ σ.1 15 ∧ σ.1 15 ≤ 20000 := hT.1 15
  have v41 : 0 ≤ σ.1 41 ∧ σ.1 41 ≤ 20001 := hT.1 41
  have v42 : 0 ≤ σ.1 42 ∧ σ.1 42 ≤ 20000 := hT.1 42
  have v44 : 0 ≤ σ.1 44 ∧ σ.1 44 ≤ 20000 := hT.1 44
  have W15 : σ.1 15 = σ.1 15 := rfl
  have W44 : σ.1 44 = σ.1 44 := rfl
  have G35 : σ.2.1 35 = σ.2.1 35 := rfl
  have G36 : σ.2.1 36 = σ.2.1 36 := rfl
  have G55 : σ.2.1 55 = σ.2.1 55 := rfl
  intro P72 h72
  have TR : J_tr (σ.1 41) ((σ.1 15) - 1 - (σ.1 44)) (σ.1 44) (σ.2.1 62) (σ.2.1 55) (σ.2.1 36) := p5
  have TR_0 := TR
  refine ⟨(⟨by (first | omega | (simp only [st_s] <;> omega) | assumption | omega | fail), by (first | omega | (simp only [st_s] <;> omega) | assumption | omega | fail)⟩ : rg (σ.1 44 + n1)), ?_⟩
  refine ⟨_, K_X0_childCount hT (show 0 ≤ (σ.1 44 + n1) from by (first | omega | (simp only [st_s] <;> omega) | assumption | omega | fail)) (show (σ.1 44 + n1) < 20000 from by (first | omega | (simp only [st_s] <;> omega) | assumption | omega | fail)), ?_⟩
  intro x3 r_x3 hq
  have q2_1 := hq
  replace q2_1 : x3 = σ.2.1 36 ((σ.1 44 + n1) + 1) - σ.2.1 36 (σ.1 44 + n1) := q2_1
  have cc := q2_1
  refine ⟨fun c5 => ?_, fun c5 => ?_⟩
  ·
    refine ⟨fun c6 => ?_, fun c6 => ?_⟩
    ·
      refine h72 _ _ ?_
      refine ⟨fun c23 => ?_, fun c23 => ?_⟩
      ·
        exact ⟨hT, (show J_tr (σ.1 41) ((σ.1 15) - 1 - (σ.1 44)) (σ.1 44) (σ.2.1 62) (σ.2.1 55) (σ.2.1 36) from TR), (show ∀ r : Int, (J_c1 r (σ.1 41) ((σ.1 15) - 1 - (σ.1 44)) (σ.1 44) (σ.2.1 62) (σ.2.1 55) (σ.2.1 36) (σ.2.1 58)) → J_c1 r (σ.1 41) ((σ.1 15) - 1 - (σ.1 44)) (σ.1 44) (σ.2.1 62) (σ.2.1 55) (σ.2.1 36) (σ.2.1 58) from by (first | exact C1n | exact fun r h => h | fail)), (show ∀ r : Int, σ.2.1 58 r ≤ σ.2.1 58 r + 1 from by (intro r; first | omega | (rw [g58_τ22]; omega) | (rw [g58_τ19]; by_cases z : r = x12; (rw [z, st_s, e_x14]; omega); (rw [st_n _ _ z]; omega)))), (show ∀ B : Int, n1 ≤ B → (∀ p : Int, 0 ≤ p → p < (σ.1 42) → σ.2.1 63 p ≤ B ∧ σ.2.1 36 ((σ.1 44) + σ.2.1 63 p) < σ.2.1 36 ((σ.1 44) + σ.2.1 63 p + 1)) → ∀ p : Int, 0 ≤ p → p < (σ.1 42) → σ.2.1 63 p ≤ B ∧ σ.2.1 36 ((σ.1 44) + σ.2.1 63 p) < σ.2.1 36 ((σ.1 44) + σ.2.1 63 p + 1) from by (intro B hB h; first | exact h | (rw [w42_τ22, w44_τ22, g63_τ22, g36_τ22]; exact h) | (rw [w42_τ19, w44_τ19, g63_τ19, g36_τ19]; exact h) | (intro p p0 p1; by_cases z : p = σ.1 42; (rw [z, st_s]; exact ⟨hB, by omega⟩); (rw [st_n _ _ z]; exact h p p0 (by omega))))), (show n2 = 0 → (∀ n : Int, 0 ≤ n → n < (σ.1 41) → 0 ≤ σ.2.1 62 n) → ∀ n : Int, 0 ≤ n → n < (σ.1 41) → 0 ≤ σ.2.1 62 n from by (intro z h; first | exact h | (exfalso; omega) | (intro n a b; by_cases y : 20001 ≤ σ.1 41; (have w := q20_1 y; rw [w.1]; exact h n a (by omega)); (have w := q20_2 (by omega); rw [w.1]; by_cases v : n = σ.1 41; (rw [v, st_s]; omega); (rw [st_n _ _ v]; exact h n a (by omega))))))⟩
      ·
        refine ⟨(show 0 ≤ σ.1 42 ∧ σ.1 42 < 20000 from by (first | omega | (simp only [st_s] <;> omega) | assumption | omega | fail)), ?_⟩
        replace hT := cT_a (k := 63) (j := (σ.1 42)) hT (show (0 : Int) ≤ n1 ∧ n1 ≤ 19999 from by (first | omega | (simp only [st_s] <;> omega) | assumption | omega | fail))
        replace hT := cT_a (k := 64) (j := (σ.1 42)) hT (show (0 : Int) ≤ 0 ∧ 0 ≤ 20000 from by (first | omega | (simp only [st_s] <;> omega) | assumption | omega | fail))
        refine ⟨(⟨by (first | omega | (simp only [st_s] <;> omega) | assumption | omega | fail), by (first | omega | (simp only [st_s] <;> omega) | assumption | omega | fail)⟩ : rg (σ.1 42 + 1)), ?_⟩
        replace hT := cT_v (i := 42) hT (show 0 ≤ (σ.1 42 + 1) ∧ (σ.1 42 + 1) ≤ 20000 from by (first | omega | (simp only [st_s] <;> omega) | assumption | omega | fail))
        exact ⟨hT, (show J_tr (σ.1 41) ((σ.1 15) - 1 - (σ.1 44)) (σ.1 44) (σ.2.1 62) (σ.2.1 55) (σ.2.1 36) from TR), (show ∀ r : Int, (J_c1 r (σ.1 41) ((σ.1 15) - 1 - (σ.1 44)) (σ.1 44) (σ.2.1 62) (σ.2.1 55) (σ.2.1 36) (σ.2.1 58)) → J_c1 r (σ.1 41) ((σ.1 15) - 1 - (σ.1 44)) (σ.1 44) (σ.2.1 62) (σ.2.1 55) (σ.2.1 36) (σ.2.1 58) from by (first | exact C1n | exact fun r h => h | fail)), (show ∀ r : Int, σ.2.1 58 r ≤ σ.2.1 58 r + 1 from by (intro r; first | omega | (rw [g58_τ22]; omega) | (rw [g58_τ19]; by_cases z : r = x12; (rw [z, st_s, e_x14]; omega); (rw [st_n _ _ z]; omega)))), (show ∀ B : Int, n1 ≤ B → (∀ p : Int, 0 ≤ p → p < (σ.1 42) → σ.2.1 63 p ≤ B ∧ σ.2.1 36 ((σ.1 44) + σ.2.1 63 p) < σ.2.1 36 ((σ.1 44) + σ.2.1 63 p + 1)) → ∀ p : Int, 0 ≤ p → p < ((σ.1 42 + 1)) → (st (σ.2.1 63) (σ.1 42) n1) p ≤ B ∧ σ.2.1 36 ((σ.1 44) + (st (σ.2.1 63) (σ.1 42) n1) p) < σ.2.1 36 ((σ.1 44) + (st (σ.2.1 63) (σ.1 42) n1) p + 1) from by (intro B hB h; first | exact h | (rw [w42_τ22, w44_τ22, g63_τ22, g36_τ22]; exact h) | (rw [w42_τ19, w44_τ19, g63_τ19, g36_τ19]; exact h) | (intro p p0 p1; by_cases z : p = σ.1 42; (rw [z, st_s]; exact ⟨hB, by omega⟩); (rw [st_n _ _ z]; exact h p p0 (by omega))))), (show n2 = 0 → (∀ n : Int, 0 ≤ n → n < (σ.1 41) → 0 ≤ σ.2.1 62 n) → ∀ n : Int, 0 ≤ n → n < (σ.1 41) → 0 ≤ σ.2.1 62 n from by (intro z h; first | exact h | (exfalso; omega) | (intro n a b; by_cases y : 20001 ≤ σ.1 41; (have w := q20_1 y; rw [w.1]; exact h n a (by omega)); (have w := q20_2 (by omega); rw [w.1]; by_cases v : n = σ.1 41; (rw [v, st_s]; omega); (rw [st_n _ _ v]; exact h n a (by omega))))))⟩
    ·
      refine ⟨(show 0 ≤ n1 ∧ n1 < 20000 from by (first | omega | (simp only [st_s] <;> omega) | assumption | omega | fail)), ?_⟩
      intro x8 r_x8 e_x8
      have b_x8 : 0 ≤ x8 ∧ x8 ≤ 19999 := by rw [e_x8]; exact hT.2 55 _
      refine ⟨(show 0 ≤ x8 ∧ x8 < 20000 from by (first | omega | (simp only [st_s] <;> omega) | assumption | omega | fail)), ?_⟩
      intro x10 r_x10 e_x10
      have b_x10 : (-2147483648) ≤ x10 ∧ x10 ≤ 2147483647 := by rw [e_x10]; exact hT.2 58 _
      refine ⟨fun c11 => ?_, fun c11 => ?_⟩
      ·
        refine h72 _ _ ?_
        refine ⟨fun c23 => ?_, fun c23 => ?_⟩
        ·
          exact ⟨hT, (show J_tr (σ.1 41) ((σ.1 15) - 1 - (σ.1 44)) (σ.1 44) (σ.2.1 62) (σ.2.1 55) (σ.2.1 36) from TR), (show ∀ r : Int, (J_c1 r (σ.1 41) ((σ.1 15) - 1 - (σ.1 44)) (σ.1 44) (σ.2.1 62) (σ.2.1 55) (σ.2.1 36) (σ.2.1 58)) → J_c1 r (σ.1 41) ((σ.1 15) - 1 - (σ.1 44)) (σ.1 44) (σ.2.1 62) (σ.2.1 55) (σ.2.1 36) (σ.2.1 58) from by (first | exact C1n | exact fun r h => h | fail)), (show ∀ r : Int, σ.2.1 58 r ≤ σ.2.1 58 r + 1 from by (intro r; first | omega | (rw [g58_τ22]; omega) | (rw [g58_τ19]; by_cases z : r = x12; (rw [z, st_s, e_x14]; omega); (rw [st_n _ _ z]; omega)))), (show ∀ B : Int, n1 ≤ B → (∀ p : Int, 0 ≤ p → p < (σ.1 42) → σ.2.1 63 p ≤ B ∧ σ.2.1 36 ((σ.1 44) + σ.2.1 63 p) < σ.2.1 36 ((σ.1 44) + σ.2.1 63 p + 1)) → ∀ p : Int, 0 ≤ p → p < (σ.1 42) → σ.2.1 63 p ≤ B ∧ σ.2.1 36 ((σ.1 44) + σ.2.1 63 p) < σ.2.1 36 ((σ.1 44) + σ.2.1 63 p + 1) from by (intro B hB h; first | exact h | (rw [w42_τ22, w44_τ22, g63_τ22, g36_τ22]; exact h) | (rw [w42_τ19, w44_τ19, g63_τ19, g36_τ19]; exact h) | (intro p p0 p1; by_cases z : p = σ.1 42; (rw [z, st_s]; exact ⟨hB, by omega⟩); (rw [st_n _ _ z]; exact h p p0 (by omega))))), (show n2 = 0 → (∀ n : Int, 0 ≤ n → n < (σ.1 41) → 0 ≤ σ.2.1 62 n) → ∀ n : Int, 0 ≤ n → n < (σ.1 41) → 0 ≤ σ.2.1 62 n from by (intro z h; first | exact h | (exfalso; omega) | (intro n a b; by_cases y : 20001 ≤ σ.1 41; (have w := q20_1 y; rw [w.1]; exact h n a (by omega)); (have w := q20_2 (by omega); rw [w.1]; by_cases v : n = σ.1 41; (rw [v, st_s]; omega); (rw [st_n _ _ v]; exact h n a (by omega))))))⟩
        ·
          refine ⟨(show 0 ≤ σ.1 42 ∧ σ.1 42 < 20000 from by (first | omega | (simp only [st_s] <;> omega) | assumption | omega | fail)), ?_⟩
          replace hT := cT_a (k := 63) (j := (σ.1 42)) hT (show (0 : Int) ≤ n1 ∧ n1 ≤ 19999 from by (first | omega | (simp only [st_s] <;> omega) | assumption | omega | fail))
          replace hT := cT_a (k := 64) (j := (σ.1 42)) hT (show (0 : Int) ≤ 0 ∧ 0 ≤ 20000 from by (first | omega | (simp only [st_s] <;> omega) | assumption | omega | fail))
          refine ⟨(⟨by (first | omega | (simp only [st_s] <;> omega) | assumption | omega | fail), by (first | omega | (simp only [st_s] <;> omega) | assumption | omega | fail)⟩ : rg (σ.1 42 + 1)), ?_⟩
          replace hT := cT_v (i := 42) hT (show 0 ≤ (σ.1 42 + 1) ∧ (σ.1 42 + 1) ≤ 20000 from by (first | omega | (simp only [st_s] <;> omega) | assumption | omega | fail))
          exact ⟨hT, (show J_tr (σ.1 41) ((σ.1 15) - 1 - (σ.1 44)) (σ.1 44) (σ.2.1 62) (σ.2.1 55) (σ.2.1 36) from TR), (show ∀ r : Int, (J_c1 r (σ.1 41) ((σ.1 15) - 1 - (σ.1 44)) (σ.1 44) (σ.2.1 62) (σ.2.1 55) (σ.2.1 36) (σ.2.1 58)) → J_c1 r (σ.1 41) ((σ.1 15) - 1 - (σ.1 44)) (σ.1 44) (σ.2.1 62) (σ.2.1 55) (σ.2.1 36) (σ.2.1 58) from by (first | exact C1n | exact fun r h => h | fail)), (show ∀ r : Int, σ.2.1 58 r ≤ σ.2.1 58 r + 1 from by (intro r; first | omega | (rw [g58_τ22]; omega) | (rw [g58_τ19]; by_cases z : r = x12; (rw [z, st_s, e_x14]; omega); (rw [st_n _ _ z]; omega)))), (show ∀ B : Int, n1 ≤ B → (∀ p : Int, 0 ≤ p → p < (σ.1 42) → σ.2.1 63 p ≤ B ∧ σ.2.1 36 ((σ.1 44) + σ.2.1 63 p) < σ.2.1 36 ((σ.1 44) + σ.2.1 63 p + 1)) → ∀ p : Int, 0 ≤ p → p < ((σ.1 42 + 1)) → (st (σ.2.1 63) (σ.1 42) n1) p ≤ B ∧ σ.2.1 36 ((σ.1 44) + (st (σ.2.1 63) (σ.1 42) n1) p) < σ.2.1 36 ((σ.1 44) + (st (σ.2.1 63) (σ.1 42) n1) p + 1) from by (intro B hB h; first | exact h | (rw [w42_τ22, w44_τ22, g63_τ22, g36_τ22]; exact h) | (rw [w42_τ19, w44_τ19, g63_τ19, g36_τ19]; exact h) | (intro p p0 p1; by_cases z : p = σ.1 42; (rw [z, st_s]; exact ⟨hB, by omega⟩); (rw [st_n _ _ z]; exact h p p0 (by omega))))), (show n2 = 0 → (∀ n : Int, 0 ≤ n → n < (σ.1 41) → 0 ≤ σ.2.1 62 n) → ∀ n : Int, 0 ≤ n → n < (σ.1 41) → 0 ≤ σ.2.1 62 n from by (intro z h; first | exact h | (exfalso; omega) | (intro n a b; by_cases y : 20001 ≤ σ.1 41; (have w := q20_1 y; rw [w.1]; exact h n a (by omega)); (have w := q20_2 (by omega); rw [w.1]; by_cases v : n = σ.1 41; (rw [v, st_s]; omega); (rw [st_n _ _ v]; exact h n a (by omega))))))⟩
      ·
        intro x12 r_x12 e_x12
        have b_x12 : 0 ≤ x12 ∧ x12 ≤ 19999 := by rw [e_x12]; exact hT.2 55 _
        refine ⟨(show 0 ≤ x12 ∧ x12 < 20000 from by (first | omega | (simp only [st_s] <;> omega) | assumption | omega | fail)), ?_⟩
        intro x14 r_x14 e_x14
        have b_x14 : (-2147483648) ≤ x14 ∧ x14 ≤ 2147483647 := by rw [e_x14]; exact hT.2 58 _
        have p7u := p7 (by omega)
        rw [← e_x12, ← e_x14] at p7u
        have ex14 : x14 = x10 := by rw [e_x14, e_x12, e_x10, e_x8]
        refine ⟨(⟨by (first | omega | (simp only [st_s] <;> omega) | assumption | omega | fail), by (first | omega | (simp only [st_s] <;> omega) | assumption | omega | fail)⟩ : rg (x14 + 1)), ?_⟩
        replace hT := cT_a (k := 58) (j := x12) hT (show (-2147483648 : Int) ≤ (x14 + 1) ∧ (x14 + 1) ≤ 2147483647 from by (first | omega | (simp only [st_s] <;> omega) | assumption | omega | fail))
        intro x16 r_x16 e_x16
        have b_x16 : 0 ≤ x16 ∧ x16 ≤ 19999 := by rw [e_x16]; exact hT.2 55 _
        refine ⟨_, K_X4_tell hT (show -20000 ≤ (-1 - x16) from by (first | omega | (simp only [st_s] <;> omega) | assumption | omega | fail)) (show (-1 - x16) ≤ 19999 from by (first | omega | (simp only [st_s] <;> omega) | assumption | omega | fail)), ?_⟩
        intro τ19 hn_τ19 hf_τ19 hq
        obtain ⟨hT, q17_1, q17_2⟩ := hq
        replace q17_1 : 20001 ≤ (σ.1 41) → τ19.2.1 62 = σ.2.1 62 ∧ (τ19.1 41) = (σ.1 41) := q17_1
        replace q17_2 : (σ.1 41) < 20001 → τ19.2.1 62 = st (σ.2.1 62) (σ.1 41) (-1 - x16) ∧ (τ19.1 41) = (σ.1 41) + 1 := q17_2
        have w15_τ19 : τ19.1 15 = σ.1 15 := hf_τ19.1 15 (by decide)
        have w42_τ19 : τ19.1 42 = σ.1 42 := hf_τ19.1 42 (by decide)
        have w44_τ19 : τ19.1 44 = σ.1 44 := hf_τ19.1 44 (by decide)
        have g35_τ19 : τ19.2.1 35 = σ.2.1 35 := hf_τ19.2.1 35 (by decide)
        have g36_τ19 : τ19.2.1 36 = σ.2.1 36 := hf_τ19.2.1 36 (by decide)
        have g55_τ19 : τ19.2.1 55 = σ.2.1 55 := hf_τ19.2.1 55 (by decide)
        have g58_τ19 : τ19.2.1 58 = (st (σ.2.1 58) x12 (x14 + 1)) := hf_τ19.2.1 58 (by decide)
        have g63_τ19 : τ19.2.1 63 = σ.2.1 63 := hf_τ19.2.1 63 (by decide)
        have g64_τ19 : τ19.2.1 64 = σ.2.1 64 := hf_τ19.2.1 64 (by decide)
        have W15 : τ19.1 15 = σ.1 15 := by first | exact w15_τ19.trans W15 | omega
        have W44 : τ19.1 44 = σ.1 44 := by first | exact w44_τ19.trans W44 | omega
        have G35 : τ19.2.1 35 = σ.2.1 35 := (g35_τ19).trans G35
        have G36 : τ19.2.1 36 = σ.2.1 36 := (g36_τ19).trans G36
        have G55 : τ19.2.1 55 = σ.2.1 55 := (g55_τ19).trans G55
        have A35 : ∀ j, 0 ≤ τ19.2.1 35 j ∧ τ19.2.1 35 j ≤ 1499 := fun j => hT.2 35 j
        have A36 : ∀ j, 0 ≤ τ19.2.1 36 j ∧ τ19.2.1 36 j ≤ 20000 := fun j => hT.2 36 j
        have A55 : ∀ j, 0 ≤ τ19.2.1 55 j ∧ τ19.2.1 55 j ≤ 19999 := fun j => hT.2 55 j
        have A58 : ∀ j, (-2147483648) ≤ τ19.2.1 58 j ∧ τ19.2.1 58 j ≤ 2147483647 := fun j => hT.2 58 j
        have A62 : ∀ j, (-20000) ≤ τ19.2.1 62 j ∧ τ19.2.1 62 j ≤ 19999 := fun j => hT.2 62 j
        have A63 : ∀ j, 0 ≤ τ19.2.1 63 j ∧ τ19.2.1 63 j ≤ 19999 := fun j => hT.2 63 j
        have A64 : ∀ j, 0 ≤ τ19.2.1 64 j ∧ τ19.2.1 64 j ≤ 20000 := fun j => hT.2 64 j
        have v15 : 0 ≤ τ19.1 15 ∧ τ19.1 15 ≤ 20000 := hT.1 15
        have v41 : 0 ≤ τ19.1 41 ∧ τ19.1 41 ≤ 20001 := hT.1 41
        have v42 : 0 ≤ τ19.1 42 ∧ τ19.1 42 ≤ 20000 := hT.1 42
        have v44 : 0 ≤ τ19.1 44 ∧ τ19.1 44 ≤ 20000 := hT.1 44
        have TR : J_tr (τ19.1 41) (τ19.1 15 - 1 - τ19.1 44) (τ19.1 44) (τ19.2.1 62) (τ19.2.1 55) (τ19.2.1 36) := by by_cases z : 20001 ≤ σ.1 41; (have w := q17_1 z; rw [w.1, w.2, W44, W15, G55, G36]; exact TR_0); (have w := q17_2 (by omega); rw [w.1, w.2, W44, W15, G55, G36]; refine J_tr_a TR_0 (Or.inr ⟨by omega, ?_⟩); have v := p6 (by omega) (by omega) (by rw [← e_x8]; omega); rw [← e_x8, show x8 = -1 - (-1 - x16) from by omega] at v; exact v)
        have C1n : ∀ r : Int, J_c1 r (σ.1 41) (σ.1 15 - 1 - σ.1 44) (σ.1 44) (σ.2.1 62) (σ.2.1 55) (σ.2.1 36) (σ.2.1 58) → J_c1 r (τ19.1 41) (τ19.1 15 - 1 - τ19.1 44) (τ19.1 44) (τ19.2.1 62) (τ19.2.1 55) (τ19.2.1 36) (τ19.2.1 58) := by intro r h; rw [W44, W15, G55, G36, g58_τ19]; have h2 := J_c1_s (e := x12) (x := x14 + 1) h (fun _ _ => by rw [← e_x14]; omega); by_cases z : 20001 ≤ σ.1 41; (have w := q17_1 z; rw [w.1, w.2]; exact h2); (have w := q17_2 (by omega); rw [w.1, w.2]; exact J_c1_t h2)
        exact ⟨hT, (show J_tr (τ19.1 41) ((τ19.1 15) - 1 - (τ19.1 44)) (τ19.1 44) (τ19.2.1 62) (τ19.2.1 55) (τ19.2.1 36) from TR), (show ∀ r : Int, (J_c1 r (σ.1 41) ((σ.1 15) - 1 - (σ.1 44)) (σ.1 44) (σ.2.1 62) (σ.2.1 55) (σ.2.1 36) (σ.2.1 58)) → J_c1 r (τ19.1 41) ((τ19.1 15) - 1 - (τ19.1 44)) (τ19.1 44) (τ19.2.1 62) (τ19.2.1 55) (τ19.2.1 36) (τ19.2.1 58) from by (first | exact C1n | exact fun r h => h | fail)), (show ∀ r : Int, τ19.2.1 58 r ≤ σ.2.1 58 r + 1 from by (intro r; first | omega | (rw [g58_τ22]; omega) | (rw [g58_τ19]; by_cases z : r = x12; (rw [z, st_s, e_x14]; omega); (rw [st_n _ _ z]; omega)))), (show ∀ B : Int, n1 ≤ B → (∀ p : Int, 0 ≤ p → p < (σ.1 42) → σ.2.1 63 p ≤ B ∧ σ.2.1 36 ((σ.1 44) + σ.2.1 63 p) < σ.2.1 36 ((σ.1 44) + σ.2.1 63 p + 1)) → ∀ p : Int, 0 ≤ p → p < (τ19.1 42) → τ19.2.1 63 p ≤ B ∧ τ19.2.1 36 ((τ19.1 44) + τ19.2.1 63 p) < τ19.2.1 36 ((τ19.1 44) + τ19.2.1 63 p + 1) from by (intro B hB h; first | exact h | (rw [w42_τ22, w44_τ22, g63_τ22, g36_τ22]; exact h) | (rw [w42_τ19, w44_τ19, g63_τ19, g36_τ19]; exact h) | (intro p p0 p1; by_cases z : p = σ.1 42; (rw [z, st_s]; exact ⟨hB, by omega⟩); (rw [st_n _ _ z]; exact h p p0 (by omega))))), (show n2 = 0 → (∀ n : Int, 0 ≤ n → n < (σ.1 41) → 0 ≤ σ.2.1 62 n) → ∀ n : Int, 0 ≤ n → n < (τ19.1 41) → 0 ≤ τ19.2.1 62 n from by (intro z h; first | exact h | (exfalso; omega) | (intro n a b; by_cases y : 20001 ≤ σ.1 41; (have w := q20_1 y; rw [w.1]; exact h n a (by omega)); (have w := q20_2 (by omega); rw [w.1]; by_cases v : n = σ.1 41; (rw [v, st_s]; omega); (rw [st_n _ _ v]; exact h n a (by omega))))))⟩
  ·
    refine ⟨_, K_X4_tell hT (show -20000 ≤ n1 from by (first | omega | (simp only [st_s] <;> omega) | assumption | omega | fail)) (show n1 ≤ 19999 from by (first | omega | (simp only [st_s] <;> omega) | assumption | omega | fail)), ?_⟩
    intro τ22 hn_τ22 hf_τ22 hq
    obtain ⟨hT, q20_1, q20_2⟩ := hq
    replace q20_1 : 20001 ≤ (σ.1 41) → τ22.2.1 62 = σ.2.1 62 ∧ (τ22.1 41) = (σ.1 41) := q20_1
    replace q20_2 : (σ.1 41) < 20001 → τ22.2.1 62 = st (σ.2.1 62) (σ.1 41) n1 ∧ (τ22.1 41) = (σ.1 41) + 1 := q20_2
    have w15_τ22 : τ22.1 15 = σ.1 15 := hf_τ22.1 15 (by decide)
    have w42_τ22 : τ22.1 42 = σ.1 42 := hf_τ22.1 42 (by decide)
    have w44_τ22 : τ22.1 44 = σ.1 44 := hf_τ22.1 44 (by decide)
    have g35_τ22 : τ22.2.1 35 = σ.2.1 35 := hf_τ22.2.1 35 (by decide)
    have g36_τ22 : τ22.2.1 36 = σ.2.1 36 := hf_τ22.2.1 36 (by decide)
    have g55_τ22 : τ22.2.1 55 = σ.2.1 55 := hf_τ22.2.1 55 (by decide)
    have g58_τ22 : τ22.2.1 58 = σ.2.1 58 := hf_τ22.2.1 58 (by decide)
    have g63_τ22 : τ22.2.1 63 = σ.2.1 63 := hf_τ22.2.1 63 (by decide)
    have g64_τ22 : τ22.2.1 64 = σ.2.1 64 := hf_τ22.2.1 64 (by decide)
    have W15 : τ22.1 15 = σ.1 15 := by first | exact w15_τ22.trans W15 | omega
    have W44 : τ22.1 44 = σ.1 44 := by first | exact w44_τ22.trans W44 | omega
    have G35 : τ22.2.1 35 = σ.2.1 35 := (g35_τ22).trans G35
    have G36 : τ22.2.1 36 = σ.2.1 36 := (g36_τ22).trans G36
    have G55 : τ22.2.1 55 = σ.2.1 55 := (g55_τ22).trans G55
    have A35 : ∀ j, 0 ≤ τ22.2.1 35 j ∧ τ22.2.1 35 j ≤ 1499 := fun j => hT.2 35 j
    have A36 : ∀ j, 0 ≤ τ22.2.1 36 j ∧ τ22.2.1 36 j ≤ 20000 := fun j => hT.2 36 j
    have A55 : ∀ j, 0 ≤ τ22.2.1 55 j ∧ τ22.2.1 55 j ≤ 19999 := fun j => hT.2 55 j
    have A58 : ∀ j, (-2147483648) ≤ τ22.2.1 58 j ∧ τ22.2.1 58 j ≤ 2147483647 := fun j => hT.2 58 j
    have A62 : ∀ j, (-20000) ≤ τ22.2.1 62 j ∧ τ22.2.1 62 j ≤ 19999 := fun j => hT.2 62 j
    have A63 : ∀ j, 0 ≤ τ22.2.1 63 j ∧ τ22.2.1 63 j ≤ 19999 := fun j => hT.2 63 j
    have A64 : ∀ j, 0 ≤ τ22.2.1 64 j ∧ τ22.2.1 64 j ≤ 20000 := fun j => hT.2 64 j
    have v15 : 0 ≤ τ22.1 15 ∧ τ22.1 15 ≤ 20000 := hT.1 15
    have v41 : 0 ≤ τ22.1 41 ∧ τ22.1 41 ≤ 20001 := hT.1 41
    have v42 : 0 ≤ τ22.1 42 ∧ τ22.1 42 ≤ 20000 := hT.1 42
    have v44 : 0 ≤ τ22.1 44 ∧ τ22.1 44 ≤ 20000 := hT.1 44
    have TR : J_tr (τ22.1 41) (τ22.1 15 - 1 - τ22.1 44) (τ22.1 44) (τ22.2.1 62) (τ22.2.1 55) (τ22.2.1 36) := by by_cases z : 20001 ≤ σ.1 41; (have w := q20_1 z; rw [w.1, w.2, W44, W15, G55, G36]; exact TR_0); (have w := q20_2 (by omega); rw [w.1, w.2, W44, W15, G55, G36]; exact J_tr_a TR_0 (Or.inl ⟨by omega, by omega⟩))
    have C1n : ∀ r : Int, J_c1 r (σ.1 41) (σ.1 15 - 1 - σ.1 44) (σ.1 44) (σ.2.1 62) (σ.2.1 55) (σ.2.1 36) (σ.2.1 58) → J_c1 r (τ22.1 41) (τ22.1 15 - 1 - τ22.1 44) (τ22.1 44) (τ22.2.1 62) (τ22.2.1 55) (τ22.2.1 36) (τ22.2.1 58) := by intro r h; rw [W44, W15, G55, G36, g58_τ22]; by_cases z : 20001 ≤ σ.1 41; (have w := q20_1 z; rw [w.1, w.2]; exact h); (have w := q20_2 (by omega); rw [w.1, w.2]; exact J_c1_t h)
    exact ⟨hT, (show J_tr (τ22.1 41) ((τ22.1 15) - 1 - (τ22.1 44)) (τ22.1 44) (τ22.2.1 62) (τ22.2.1 55) (τ22.2.1 36) from TR), (show ∀ r : Int, (J_c1 r (σ.1 41) ((σ.1 15) - 1 - (σ.1 44)) (σ.1 44) (σ.2.1 62) (σ.2.1 55) (σ.2.1 36) (σ.2.1 58)) → J_c1 r (τ22.1 41) ((τ22.1 15) - 1 - (τ22.1 44)) (τ22.1 44) (τ22.2.1 62) (τ22.2.1 55) (τ22.2.1 36) (τ22.2.1 58) from by (first | exact C1n | exact fun r h => h | fail)), (show ∀ r : Int, τ22.2.1 58 r ≤ σ.2.1 58 r + 1 from by (intro r; first | omega | (rw [g58_τ22]; omega) | (rw [g58_τ19]; by_cases z : r = x12; (rw [z, st_s, e_x14]; omega); (rw [st_n _ _ z]; omega)))), (show ∀ B : Int, n1 ≤ B → (∀ p : Int, 0 ≤ p → p < (σ.1 42) → σ.2.1 63 p ≤ B ∧ σ.2.1 36 ((σ.1 44) + σ.2.1 63 p) < σ.2.1 36 ((σ.1 44) + σ.2.1 63 p + 1)) → ∀ p : Int, 0 ≤ p → p < (τ22.1 42) → τ22.2.1 63 p ≤ B ∧ τ22.2.1 36 ((τ22.1 44) + τ22.2.1 63 p) < τ22.2.1 36 ((τ22.1 44) + τ22.2.1 63 p + 1) from by (intro B hB h; first | exact h | (rw [w42_τ22, w44_τ22, g63_τ22, g36_τ22]; exact h) | (rw [w42_τ19, w44_τ19, g63_τ19, g36_τ19]; exact h) | (intro p p0 p1; by_cases z : p = σ.1 42; (rw [z, st_s]; exact ⟨hB, by omega⟩); (rw [st_n _ _ z]; exact h p p0 (by omega))))), (show n2 = 0 → (∀ n : Int, 0 ≤ n → n < (σ.1 41) → 0 ≤ σ.2.1 62 n) → ∀ n : Int, 0 ≤ n → n < (τ22.1 41) → 0 ≤ τ22.2.1 62 n from by (intro z h; first | exact h | (exfalso; omega) | (intro n a b; by_cases y : 20001 ≤ σ.1 41; (have w := q20_1 y; rw [w.1]; exact h n a (by omega)); (have w := q20_2 (by omega); rw [w.1]; by_cases v : n = σ.1 41; (rw [v, st_s]; omega); (rw [st_n _ _ v]; exact h n a (by omega))))))⟩
set_option maxHeartbeats 1000000 in
theorem K_X4_walk {n1 : Int} {n2 : Int} {σ : S0} (hT : c_T σ) (p1 : 0 ≤ n1) (p2 : J_pk (σ.1 44) (n1 + 1) (σ.2.1 13) (σ.2.1 28) (σ.2.1 35) (σ.2.1 36) (σ.2.1 37)) (p3 : 0 ≤ n2 ∧ n2 ≤ 1) (p4 : ¬ n2 = 0 → J_sa (n1 + 1) (σ.2.1 55)) (p5 : ¬ n2 = 0 → ∀ r : Int, 0 ≤ r → r ≤ n1 → σ.2.1 58 r = 0) (p6 : (σ.1 44) + n1 < (σ.1 15)) : W_X4_walk n1 n2 σ (fun (τ : S0) => (c_T τ) ∧ (J_tr (τ.1 41) ((τ.1 15) - 1 - (τ.1 44)) (τ.1 44) (τ.2.1 62) (τ.2.1 55) (τ.2.1 36)) ∧ ((n2 : Int) = 0 → ∀ n : Int, 0 ≤ n → n < (τ.1 41) → 0 ≤ τ.2.1 62 n)) := by
  have A13 : ∀ j, 0 ≤ σ.2.1 13 j ∧ σ.2.1 13 j ≤ 4 := fun j => hT.2 13 j
  have A28 : ∀ j, 0 ≤ σ.2.1 28 j ∧ σ.2.1 28 j ≤ 60 := fun j => hT.2 28 j
  have A35 : ∀ j, 0 ≤ σ.2.1 35 j ∧ σ.2.1 35 j ≤ 1499 := fun j => hT.2 35 j
  have A36 : ∀ j, 0 ≤ σ.2.1 36 j ∧ σ.2.1 36 j ≤ 20000 := fun j => hT.2 36 j
  have A37 : ∀ j, 0 ≤ σ.2.1 37 j ∧ σ.2.1 37 j ≤ 19999 := fun j => hT.2 37 j
  have A55 : ∀ j, 0 ≤ σ.2.1 55 j ∧ σ.2.1 55 j ≤ 19999 := fun j => hT.2 55 j
  have A58 : ∀ j, (-2147483648) ≤ σ.2.1 58 j ∧ σ.2.1 58 j ≤ 2147483647 := fun j => hT.2 58 j
  have A62 : ∀ j, (-20000) ≤ σ.2.1 62 j ∧ σ.2.1 62 j ≤ 19999 := fun j => hT.2 62 j
  have A63 : ∀ j, 0 ≤ σ.2.1 63 j ∧ σ.2.1 63 j ≤ 19999 := fun j => hT.2 63 j
  have A64 : ∀ j, 0 ≤ σ.2.1 64 j ∧ σ.2.1 64 j ≤ 20000 := fun j => hT.2 64 j
  have v15 : 0 ≤ σ.1 15 ∧ σ.1 15 ≤ 20000 := hT.1 15
  have v41 : 0 ≤ σ.1 41 ∧ σ.1 41 ≤ 20001 := hT.1 41
  have v42 : 0 ≤ σ.1 42 ∧ σ.1 42 ≤ 20000 := hT.1 42
  have v44 : 0 ≤ σ.1 44 ∧ σ.1 44 ≤ 20000 := hT.1 44
  have W15 : σ.1 15 = σ.1 15 := rfl
  have W44 : σ.1 44 = σ.1 44 := rfl
  have G13 : σ.2.1 13 = σ.2.1 13 := rfl
  have G28 : σ.2.1 28 = σ.2.1 28 := rfl
  have G35 : σ.2.1 35 = σ.2.1 35 := rfl
  have G36 : σ.2.1 36 = σ.2.1 36 := rfl
  have G37 : σ.2.1 37 = σ.2.1 37 := rfl
  have G55 : σ.2.1 55 = σ.2.1 55 := rfl
  intro P18 P161 h18 h161
  have pk := p2
  have pb := p2.1
  have f0 : ∀ j, 0 ≤ σ.2.1 28 j := fun j => (A28 j).1
  have l_18 : ∀ (m_18 : Nat) (u3_18 : Int) (τ_18 : S0), 1000001 - u3_18 < (m_18 : Int) → (c_T τ_18) → (τ_18.1 15 = σ.1 15) → (τ_18.1 44 = σ.1 44) → (τ_18.2.1 13 = σ.2.1 13) → (τ_18.2.1 28 = σ.2.1 28) → (τ_18.2.1 35 = σ.2.1 35) → (τ_18.2.1 36 = σ.2.1 36) → (τ_18.2.1 37 = σ.2.1 37) → (τ_18.2.1 55 = σ.2.1 55) → (0 ≤ u3_18) → (u3_18 ≤ 1000000) → (∀ p : Int, 0 ≤ p → p < (τ_18.1 42) → τ_18.2.1 63 p ≤ n1 ∧ τ_18.2.1 36 ((τ_18.1 44) + τ_18.2.1 63 p) < τ_18.2.1 36 ((τ_18.1 44) + τ_18.2.1 63 p + 1)) → (J_tr (τ_18.1 41) ((τ_18.1 15) - 1 - (τ_18.1 44)) (τ_18.1 44) (τ_18.2.1 62) (τ_18.2.1 55) (τ_18.2.1 36)) → (n2 = 0 → ∀ n : Int, 0 ≤ n → n < (τ_18.1 41) → 0 ≤ τ_18.2.1 62 n) → (¬ n2 = 0 → ∀ r : Int, 0 ≤ r → r ≤ n1 → J_c1 r (τ_18.1 41) ((τ_18.1 15) - 1 - (τ_18.1 44)) (τ_18.1 44) (τ_18.2.1 62) (τ_18.2.1 55) (τ_18.2.1 36) (τ_18.2.1 58)) → (¬ n2 = 0 → ∀ r : Int, 0 ≤ r → r ≤ n1 → τ_18.2.1 58 r ≤ u3_18 + 2) → P18 n2 u3_18 τ_18 := by
    intro m_18
    induction m_18 with
    | zero =>
      intro u3_18 τ_18 hm hT W15 W44 G13 G28 G35 G36 G37 G55 i18_1 i18_2 i18_3 i18_4 i18_5 i18_6 i18_7
      have A13 : ∀ j, 0 ≤ τ_18.2.1 13 j ∧ τ_18.2.1 13 j ≤ 4 := fun j => hT.2 13 j
      have A28 : ∀ j, 0 ≤ τ_18.2.1 28 j ∧ τ_18.2.1 28 j ≤ 60 := fun j => hT.2 28 j
      have A35 : ∀ j, 0 ≤ τ_18.2.1 35 j ∧ τ_18.2.1 35 j ≤ 1499 := fun j => hT.2 35 j
      have A36 : ∀ j, 0 ≤ τ_18.2.1 36 j ∧ τ_18.2.1 36 j ≤ 20000 := fun j => hT.2 36 j
      have A37 : ∀ j, 0 ≤ τ_18.2.1 37 j ∧ τ_18.2.1 37 j ≤ 19999 := fun j => hT.2 37 j
      have A55 : ∀ j, 0 ≤ τ_18.2.1 55 j ∧ τ_18.2.1 55 j ≤ 19999 := fun j => hT.2 55 j
      have A58 : ∀ j, (-2147483648) ≤ τ_18.2.1 58 j ∧ τ_18.2.1 58 j ≤ 2147483647 := fun j => hT.2 58 j
      have A62 : ∀ j, (-20000) ≤ τ_18.2.1 62 j ∧ τ_18.2.1 62 j ≤ 19999 := fun j => hT.2 62 j
      have A63 : ∀ j, 0 ≤ τ_18.2.1 63 j ∧ τ_18.2.1 63 j ≤ 19999 := fun j => hT.2 63 j
      have A64 : ∀ j, 0 ≤ τ_18.2.1 64 j ∧ τ_18.2.1 64 j ≤ 20000 := fun j => hT.2 64 j
      have v15 : 0 ≤ τ_18.1 15 ∧ τ_18.1 15 ≤ 20000 := hT.1 15
      have v41 : 0 ≤ τ_18.1 41 ∧ τ_18.1 41 ≤ 20001 := hT.1 41
      have v42 : 0 ≤ τ_18.1 42 ∧ τ_18.1 42 ≤ 20000 := hT.1 42
      have v44 : 0 ≤ τ_18.1 44 ∧ τ_18.1 44 ≤ 20000 := hT.1 44
      exfalso; (first | omega | (simp only [st_s] <;> omega) | assumption | omega | fail)
    | succ m_18 ih_18 =>
      intro u3_18 τ_18 hm_18 hT W15 W44 G13 G28 G35 G36 G37 G55 i18_1 i18_2 i18_3 i18_4 i18_5 i18_6 i18_7
      have A13 : ∀ j, 0 ≤ τ_18.2.1 13 j ∧ τ_18.2.1 13 j ≤ 4 := fun j => hT.2 13 j
      have A28 : ∀ j, 0 ≤ τ_18.2.1 28 j ∧ τ_18.2.1 28 j ≤ 60 := fun j => hT.2 28 j
      have A35 : ∀ j, 0 ≤ τ_18.2.1 35 j ∧ τ_18.2.1 35 j ≤ 1499 := fun j => hT.2 35 j
      have A36 : ∀ j, 0 ≤ τ_18.2.1 36 j ∧ τ_18.2.1 36 j ≤ 20000 := fun j => hT.2 36 j
      have A37 : ∀ j, 0 ≤ τ_18.2.1 37 j ∧ τ_18.2.1 37 j ≤ 19999 := fun j => hT.2 37 j
      have A55 : ∀ j, 0 ≤ τ_18.2.1 55 j ∧ τ_18.2.1 55 j ≤ 19999 := fun j => hT.2 55 j
      have A58 : ∀ j, (-2147483648) ≤ τ_18.2.1 58 j ∧ τ_18.2.1 58 j ≤ 2147483647 := fun j => hT.2 58 j
      have A62 : ∀ j, (-20000) ≤ τ_18.2.1 62 j ∧ τ_18.2.1 62 j ≤ 19999 := fun j => hT.2 62 j
      have A63 : ∀ j, 0 ≤ τ_18.2.1 63 j ∧ τ_18.2.1 63 j ≤ 19999 := fun j => hT.2 63 j
      have A64 : ∀ j, 0 ≤ τ_18.2.1 64 j ∧ τ_18.2.1 64 j ≤ 20000 := fun j => hT.2 64 j
      have v15 : 0 ≤ τ_18.1 15 ∧ τ_18.1 15 ≤ 20000 := hT.1 15
      have v41 : 0 ≤ τ_18.1 41 ∧ τ_18.1 41 ≤ 20001 := hT.1 41
      have v42 : 0 ≤ τ_18.1 42 ∧ τ_18.1 42 ≤ 20000 := hT.1 42
      have v44 : 0 ≤ τ_18.1 44 ∧ τ_18.1 44 ≤ 20000 := hT.1 44
      have TR : J_tr (τ_18.1 41) ((τ_18.1 15) - 1 - (τ_18.1 44)) (τ_18.1 44) (τ_18.2.1 62) (τ_18.2.1 55) (τ_18.2.1 36) := i18_4
      refine h18 n2 u3_18 τ_18 ?_
      refine ⟨fun c4 => ?_, fun c4 => ?_⟩
      ·
        exact ⟨hT, (show J_tr (τ_18.1 41) ((τ_18.1 15) - 1 - (τ_18.1 44)) (τ_18.1 44) (τ_18.2.1 62) (τ_18.2.1 55) (τ_18.2.1 36) from TR), (show (n2 : Int) = 0 → ∀ n : Int, 0 ≤ n → n < (τ_18.1 41) → 0 ≤ τ_18.2.1 62 n from by (first | omega | (simp only [st_s] <;> omega) | assumption | omega | fail))⟩
      ·
        refine ⟨fun c5 => ?_, fun c5 => ?_⟩
        ·
          exact ⟨hT, (show J_tr (τ_18.1 41) ((τ_18.1 15) - 1 - (τ_18.1 44)) (τ_18.1 44) (τ_18.2.1 62) (τ_18.2.1 55) (τ_18.2.1 36) from TR), (show (n2 : Int) = 0 → ∀ n : Int, 0 ≤ n → n < (τ_18.1 41) → 0 ≤ τ_18.2.1 62 n from by (first | omega | (simp only [st_s] <;> omega) | assumption | omega | fail))⟩
        ·
          refine ⟨(show 0 ≤ (τ_18.1 42 - 1) ∧ (τ_18.1 42 - 1) < 20000 from by (first | omega | (simp only [st_s] <;> omega) | assumption | omega | fail)), ?_⟩
          intro x7 r_x7 e_x7
          have b_x7 : 0 ≤ x7 ∧ x7 ≤ 19999 := by rw [e_x7]; exact hT.2 63 _
          have sk := i18_3 (τ_18.1 42 - 1) (by omega) (by omega)
          rw [← e_x7] at sk
          have c36a := A36 (τ_18.1 44 + x7 + 1)
          have c36b := A36 (τ_18.1 44 + x7)
          intro x8 r_x8 e_x8
          have b_x8 : 0 ≤ x8 ∧ x8 ≤ 20000 := by rw [e_x8]; exact hT.2 64 _
          refine ⟨(⟨by (first | omega | (simp only [st_s] <;> omega) | assumption | omega | fail), by (first | omega | (simp only [st_s] <;> omega) | assumption | omega | fail)⟩ : rg (τ_18.1 44 + x7)), ?_⟩
          refine ⟨_, K_X0_childCount hT (show 0 ≤ (τ_18.1 44 + x7) from by (first | omega | (simp only [st_s] <;> omega) | assumption | omega | fail)) (show (τ_18.1 44 + x7) < 20000 from by (first | omega | (simp only [st_s] <;> omega) | assumption | omega | fail)), ?_⟩
          intro x11 r_x11 hq
          have q10_1 := hq
          replace q10_1 : x11 = τ_18.2.1 36 ((τ_18.1 44 + x7) + 1) - τ_18.2.1 36 (τ_18.1 44 + x7) := q10_1
          refine ⟨fun c13 => ?_, fun c13 => ?_⟩
          ·
            replace hT := cT_v (i := 42) hT (show 0 ≤ (τ_18.1 42 - 1) ∧ (τ_18.1 42 - 1) ≤ 20000 from by (first | omega | (simp only [st_s] <;> omega) | assumption | omega | fail))
            refine ⟨_, K_X4_tell hT (show -20000 ≤ x7 from by (first | omega | (simp only [st_s] <;> omega) | assumption | omega | fail)) (show x7 ≤ 19999 from by (first | omega | (simp only [st_s] <;> omega) | assumption | omega | fail)), ?_⟩
            intro τ16 hn_τ16 hf_τ16 hq
            obtain ⟨hT, q14_1, q14_2⟩ := hq
            replace q14_1 : 20001 ≤ (τ_18.1 41) → τ16.2.1 62 = τ_18.2.1 62 ∧ (τ16.1 41) = (τ_18.1 41) := q14_1
            replace q14_2 : (τ_18.1 41) < 20001 → τ16.2.1 62 = st (τ_18.2.1 62) (τ_18.1 41) x7 ∧ (τ16.1 41) = (τ_18.1 41) + 1 := q14_2
            have w15_τ16 : τ16.1 15 = τ_18.1 15 := hf_τ16.1 15 (by decide)
            have w42_τ16 : τ16.1 42 = (τ_18.1 42 - 1) := hf_τ16.1 42 (by decide)
            have w44_τ16 : τ16.1 44 = τ_18.1 44 := hf_τ16.1 44 (by decide)
            have g13_τ16 : τ16.2.1 13 = τ_18.2.1 13 := hf_τ16.2.1 13 (by decide)
            have g28_τ16 : τ16.2.1 28 = τ_18.2.1 28 := hf_τ16.2.1 28 (by decide)
            have g35_τ16 : τ16.2.1 35 = τ_18.2.1 35 := hf_τ16.2.1 35 (by decide)
            have g36_τ16 : τ16.2.1 36 = τ_18.2.1 36 := hf_τ16.2.1 36 (by decide)
            have g37_τ16 : τ16.2.1 37 = τ_18.2.1 37 := hf_τ16.2.1 37 (by decide)
            have g55_τ16 : τ16.2.1 55 = τ_18.2.1 55 := hf_τ16.2.1 55 (by decide)
            have g58_τ16 : τ16.2.1 58 = τ_18.2.1 58 := hf_τ16.2.1 58 (by decide)
            have g63_τ16 : τ16.2.1 63 = τ_18.2.1 63 := hf_τ16.2.1 63 (by decide)
            have g64_τ16 : τ16.2.1 64 = τ_18.2.1 64 := hf_τ16.2.1 64 (by decide)
            have W15 : τ16.1 15 = σ.1 15 := by first | exact w15_τ16.trans W15 | omega
            have W44 : τ16.1 44 = σ.1 44 := by first | exact w44_τ16.trans W44 | omega
            have G13 : τ16.2.1 13 = σ.2.1 13 := (g13_τ16).trans G13
            have G28 : τ16.2.1 28 = σ.2.1 28 := (g28_τ16).trans G28
            have G35 : τ16.2.1 35 = σ.2.1 35 := (g35_τ16).trans G35
            have G36 : τ16.2.1 36 = σ.2.1 36 := (g36_τ16).trans G36
            have G37 : τ16.2.1 37 = σ.2.1 37 := (g37_τ16).trans G37
            have G55 : τ16.2.1 55 = σ.2.1 55 := (g55_τ16).trans G55
            have A13 : ∀ j, 0 ≤ τ16.2.1 13 j ∧ τ16.2.1 13 j ≤ 4 := fun j => hT.2 13 j
            have A28 : ∀ j, 0 ≤ τ16.2.1 28 j ∧ τ16.2.1 28 j ≤ 60 := fun j => hT.2 28 j
            have A35 : ∀ j, 0 ≤ τ16.2.1 35 j ∧ τ16.2.1 35 j ≤ 1499 := fun j => hT.2 35 j
            have A36 : ∀ j, 0 ≤ τ16.2.1 36 j ∧ τ16.2.1 36 j ≤ 20000 := fun j => hT.2 36 j
            have A37 : ∀ j, 0 ≤ τ16.2.1 37 j ∧ τ16.2.1 37 j ≤ 19999 := fun j => hT.2 37 j
            have A55 : ∀ j, 0 ≤ τ16.2.1 55 j ∧ τ16.2.1 55 j ≤ 19999 := fun j => hT.2 55 j
            have A58 : ∀ j, (-2147483648) ≤ τ16.2.1 58 j ∧ τ16.2.1 58 j ≤ 2147483647 := fun j => hT.2 58 j
            have A62 : ∀ j, (-20000) ≤ τ16.2.1 62 j ∧ τ16.2.1 62 j ≤ 19999 := fun j => hT.2 62 j
            have A63 : ∀ j, 0 ≤ τ16.2.1 63 j ∧ τ16.2.1 63 j ≤ 19999 := fun j => hT.2 63 j
            have A64 : ∀ j, 0 ≤ τ16.2.1 64 j ∧ τ16.2.1 64 j ≤ 20000 := fun j => hT.2 64 j
            have v15 : 0 ≤ τ16.1 15 ∧ τ16.1 15 ≤ 20000 := hT.1 15
            have v41 : 0 ≤ τ16.1 41 ∧ τ16.1 41 ≤ 20001 := hT.1 41
            have v42 : 0 ≤ τ16.1 42 ∧ τ16.1 42 ≤ 20000 := hT.1 42
            have v44 : 0 ≤ τ16.1 44 ∧ τ16.1 44 ≤ 20000 := hT.1 44
            have TR : J_tr (τ16.1 41) (τ16.1 15 - 1 - τ16.1 44) (τ16.1 44) (τ16.2.1 62) (τ16.2.1 55) (τ16.2.1 36) := by by_cases z : 20001 ≤ τ_18.1 41; (have w := q14_1 z; rw [w.1, w.2, w44_τ16, w15_τ16, g55_τ16, g36_τ16]; exact TR); (have w := q14_2 (by omega); rw [w.1, w.2, w44_τ16, w15_τ16, g55_τ16, g36_τ16]; exact J_tr_a TR (Or.inl ⟨by omega, by omega⟩))
            refine ⟨(show 0 ≤ x7 ∧ x7 < 20000 from by (first | omega | (simp only [st_s] <;> omega) | assumption | omega | fail)), ?_⟩
            intro x18 r_x18 e_x18
            have b_x18 : 0 ≤ x18 ∧ x18 ≤ 19999 := by rw [e_x18]; exact hT.2 55 _
            refine ⟨fun c19 => ?_, fun c19 => ?_⟩
            ·
              refine h161 _ _ _ _ _ ?_
              refine ⟨(show 0 ≤ x18 ∧ x18 < 20000 from by (first | omega | (simp only [st_s] <;> omega) | assumption | omega | fail)), ?_⟩
              replace hT := cT_a (k := 58) (j := x18) hT (show (-2147483648 : Int) ≤ 0 ∧ 0 ≤ 2147483647 from by (first | omega | (simp only [st_s] <;> omega) | assumption | omega | fail))
              refine ⟨(⟨by (first | omega | (simp only [st_s] <;> omega) | assumption | omega | fail), by (first | omega | (simp only [st_s] <;> omega) | assumption | omega | fail)⟩ : rg (u3_18 + 1)), ?_⟩
              exact ih_18 _ _ (show (1000001 - (u3_18 + 1) : Int) < ((m_18 : Nat) : Int) from by ((first | omega | (simp only [st_s] <;> omega) | assumption | omega | fail))) hT (show τ16.1 15 = σ.1 15 from by first | exact W15 | omega) (show τ16.1 44 = σ.1 44 from by first | exact W44 | omega) G13 G28 G35 G36 G37 G55 (show 0 ≤ (u3_18 + 1) from by (first | omega | (simp only [st_s] <;> omega) | assumption | omega | fail)) (show (u3_18 + 1) ≤ 1000000 from by (first | omega | (simp only [st_s] <;> omega) | assumption | omega | fail)) (show ∀ p : Int, 0 ≤ p → p < (τ16.1 42) → τ16.2.1 63 p ≤ n1 ∧ τ16.2.1 36 ((τ16.1 44) + τ16.2.1 63 p) < τ16.2.1 36 ((τ16.1 44) + τ16.2.1 63 p + 1) from by (first | exact q1_4 n1 (Int.le_refl _) (fun p a b => by exfalso; omega) | exact q26_4 n1 (by omega) i18_3 | (intro p a b; rw [g63_τ16, g36_τ16, w44_τ16]; exact i18_3 p a (by omega)) | fail)) (show J_tr (τ16.1 41) ((τ16.1 15) - 1 - (τ16.1 44)) (τ16.1 44) (τ16.2.1 62) (τ16.2.1 55) (τ16.2.1 36) from TR) (show n2 = 0 → ∀ n : Int, 0 ≤ n → n < (τ16.1 41) → 0 ≤ τ16.2.1 62 n from by (first | exact fun z => q1_5 z (fun n a b => by exfalso; omega) | exact fun z => q26_5 z (i18_5 z) | (intro z n a b; have h := i18_5 z; by_cases y : 20001 ≤ τ_18.1 41; (have w := q14_1 y; rw [w.1]; exact h n a (by omega)); (have w := q14_2 (by omega); rw [w.1]; by_cases v : n = τ_18.1 41; (rw [v, st_s]; omega); (rw [st_n _ _ v]; exact h n a (by omega)))) | fail)) (show ¬ n2 = 0 → ∀ r : Int, 0 ≤ r → r ≤ n1 → J_c1 r (τ16.1 41) ((τ16.1 15) - 1 - (τ16.1 44)) (τ16.1 44) (τ16.2.1 62) (τ16.2.1 55) (τ16.2.1 36) ((st (τ16.2.1 58) x18 0)) from by (first | exact fun z r a b => q1_2 r (fun c d => by exfalso; have := p5 z r a b; omega) | exact fun z r a b => q26_2 r (i18_6 z r a b) | (intro z r a b; have h := i18_6 z r a b; rw [w44_τ16, w15_τ16, g55_τ16, g36_τ16, g58_τ16]; by_cases y : 20001 ≤ τ_18.1 41; (have w := q14_1 y; intro c; exfalso; omega); (have w := q14_2 (by omega); rw [w.1, w.2]; exact J_c1_n h (by omega) (by omega) sk.2 (by rw [e_x18, g55_τ16]) (by omega))) | fail)) (show ¬ n2 = 0 → ∀ r : Int, 0 ≤ r → r ≤ n1 → (st (τ16.2.1 58) x18 0) r ≤ (u3_18 + 1) + 2 from by (intro z r a b; first | (have w := q1_3 r; have v := p5 z r a b; omega) | (have w := q26_3 r; have v := i18_7 z r a b; omega) | (rw [g58_τ16]; by_cases y : r = x18; (rw [y, st_s]; omega); (rw [st_n _ _ y]; have v := i18_7 z r a b; omega))))
            ·
              refine h161 _ _ _ _ _ ?_
              refine ⟨(show 0 ≤ x18 ∧ x18 < 20000 from by (first | omega | (simp only [st_s] <;> omega) | assumption | omega | fail)), ?_⟩
              replace hT := cT_a (k := 58) (j := x18) hT (show (-2147483648 : Int) ≤ 1 ∧ 1 ≤ 2147483647 from by (first | omega | (simp only [st_s] <;> omega) | assumption | omega | fail))
              refine ⟨(⟨by (first | omega | (simp only [st_s] <;> omega) | assumption | omega | fail), by (first | omega | (simp only [st_s] <;> omega) | assumption | omega | fail)⟩ : rg (u3_18 + 1)), ?_⟩
              exact ih_18 _ _ (show (1000001 - (u3_18 + 1) : Int) < ((m_18 : Nat) : Int) from by ((first | omega | (simp only [st_s] <;> omega) | assumption | omega | fail))) hT (show τ16.1 15 = σ.1 15 from by first | exact W15 | omega) (show τ16.1 44 = σ.1 44 from by first | exact W44 | omega) G13 G28 G35 G36 G37 G55 (show 0 ≤ (u3_18 + 1) from by (first | omega | (simp only [st_s] <;> omega) | assumption | omega | fail)) (show (u3_18 + 1) ≤ 1000000 from by (first | omega | (simp only [st_s] <;> omega) | assumption | omega | fail)) (show ∀ p : Int, 0 ≤ p → p < (τ16.1 42) → τ16.2.1 63 p ≤ n1 ∧ τ16.2.1 36 ((τ16.1 44) + τ16.2.1 63 p) < τ16.2.1 36 ((τ16.1 44) + τ16.2.1 63 p + 1) from by (first | exact q1_4 n1 (Int.le_refl _) (fun p a b => by exfalso; omega) | exact q26_4 n1 (by omega) i18_3 | (intro p a b; rw [g63_τ16, g36_τ16, w44_τ16]; exact i18_3 p a (by omega)) | fail)) (show J_tr (τ16.1 41) ((τ16.1 15) - 1 - (τ16.1 44)) (τ16.1 44) (τ16.2.1 62) (τ16.2.1 55) (τ16.2.1 36) from TR) (show n2 = 0 → ∀ n : Int, 0 ≤ n → n < (τ16.1 41) → 0 ≤ τ16.2.1 62 n from by (first | exact fun z => q1_5 z (fun n a b => by exfalso; omega) | exact fun z => q26_5 z (i18_5 z) | (intro z n a b; have h := i18_5 z; by_cases y : 20001 ≤ τ_18.1 41; (have w := q14_1 y; rw [w.1]; exact h n a (by omega)); (have w := q14_2 (by omega); rw [w.1]; by_cases v : n = τ_18.1 41; (rw [v, st_s]; omega); (rw [st_n _ _ v]; exact h n a (by omega)))) | fail)) (show ¬ n2 = 0 → ∀ r : Int, 0 ≤ r → r ≤ n1 → J_c1 r (τ16.1 41) ((τ16.1 15) - 1 - (τ16.1 44)) (τ16.1 44) (τ16.2.1 62) (τ16.2.1 55) (τ16.2.1 36) ((st (τ16.2.1 58) x18 1)) from by (first | exact fun z r a b => q1_2 r (fun c d => by exfalso; have := p5 z r a b; omega) | exact fun z r a b => q26_2 r (i18_6 z r a b) | (intro z r a b; have h := i18_6 z r a b; rw [w44_τ16, w15_τ16, g55_τ16, g36_τ16, g58_τ16]; by_cases y : 20001 ≤ τ_18.1 41; (have w := q14_1 y; intro c; exfalso; omega); (have w := q14_2 (by omega); rw [w.1, w.2]; exact J_c1_n h (by omega) (by omega) sk.2 (by rw [e_x18, g55_τ16]) (by omega))) | fail)) (show ¬ n2 = 0 → ∀ r : Int, 0 ≤ r → r ≤ n1 → (st (τ16.2.1 58) x18 1) r ≤ (u3_18 + 1) + 2 from by (intro z r a b; first | (have w := q1_3 r; have v := p5 z r a b; omega) | (have w := q26_3 r; have v := i18_7 z r a b; omega) | (rw [g58_τ16]; by_cases y : r = x18; (rw [y, st_s]; omega); (rw [st_n _ _ y]; have v := i18_7 z r a b; omega))))
          ·
            intro x20 r_x20 e_x20
            have b_x20 : 0 ≤ x20 ∧ x20 ≤ 20000 := by rw [e_x20]; exact hT.2 64 _
            have e20 : x20 = x8 := by rw [e_x20, e_x8]
            refine ⟨(⟨by (first | omega | (simp only [st_s] <;> omega) | assumption | omega | fail), by (first | omega | (simp only [st_s] <;> omega) | assumption | omega | fail)⟩ : rg (x20 + 1)), ?_⟩
            replace hT := cT_a (k := 64) (j := (τ_18.1 42 - 1)) hT (show (0 : Int) ≤ (x20 + 1) ∧ (x20 + 1) ≤ 20000 from by (first | omega | (simp only [st_s] <;> omega) | assumption | omega | fail))
            have pr := (pk.2 x7 (by omega) (by omega)).2
            have mo := J_pk_m pk f0 (r := x7) (by omega) (by omega)
            have c36 := A36 (τ_18.1 44 + x7 + 1)
            refine ⟨(show 0 ≤ (τ_18.1 44 + x7) ∧ (τ_18.1 44 + x7) < 20001 from by (first | omega | (simp only [st_s] <;> omega) | assumption | omega | fail)), ?_⟩
            intro x23 r_x23 e_x23
            have b_x23 : 0 ≤ x23 ∧ x23 ≤ 20000 := by rw [e_x23]; exact hT.2 36 _
            refine ⟨(show 0 ≤ (x23 + x8) ∧ (x23 + x8) < 20000 from by (first | omega | (simp only [st_s] <;> omega) | assumption | omega | fail)), ?_⟩
            intro x25 r_x25 e_x25
            have b_x25 : 0 ≤ x25 ∧ x25 ≤ 19999 := by rw [e_x25]; exact hT.2 37 _
            rw [← W44, ← G36, ← G37] at pr
            have chl := pr (x23 + x8) (by omega) (by omega)
            rw [← e_x25] at chl
            have mo2 := J_pk_m pk f0 (r := x25) (by omega) (by omega)
            have sa2 := fun z => p4 z x25 (by omega) (by omega)
            refine ⟨_, K_X4_enter hT (show 0 ≤ x25 from by (first | omega | (simp only [st_s] <;> omega) | assumption | omega | fail)) (show (τ_18.1 44) + x25 < (τ_18.1 15) from by (first | omega | (simp only [st_s] <;> omega) | assumption | omega | fail)) (show 0 ≤ n2 ∧ n2 ≤ 1 from by (first | omega | (simp only [st_s] <;> omega) | assumption | omega | fail)) (show τ_18.2.1 36 ((τ_18.1 44) + x25) ≤ τ_18.2.1 36 ((τ_18.1 44) + x25 + 1) from by (rw [G36, W44]; exact mo2)) (show J_tr (τ_18.1 41) ((τ_18.1 15) - 1 - (τ_18.1 44)) (τ_18.1 44) (τ_18.2.1 62) (τ_18.2.1 55) (τ_18.2.1 36) from TR) (show ¬ n2 = 0 → J_c1 (τ_18.2.1 55 x25) (τ_18.1 41) ((τ_18.1 15) - 1 - (τ_18.1 44)) (τ_18.1 44) (τ_18.2.1 62) (τ_18.2.1 55) (τ_18.2.1 36) (τ_18.2.1 58) from by (intro z; have w := i18_6 z (τ_18.2.1 55 x25) (by rw [G55]; exact (sa2 z).1) (by rw [G55]; have := (sa2 z).2; omega); exact w)) (show ¬ n2 = 0 → τ_18.2.1 58 (τ_18.2.1 55 x25) ≤ 2000000 from by (intro z; have w := i18_7 z (τ_18.2.1 55 x25) (by rw [G55]; exact (sa2 z).1) (by rw [G55]; have := (sa2 z).2; omega); omega)), ?_⟩
            intro τ28 hn_τ28 hf_τ28 hq
            obtain ⟨hT, q26_1, q26_2, q26_3, q26_4, q26_5⟩ := hq
            replace q26_1 : J_tr (τ28.1 41) ((τ28.1 15) - 1 - (τ28.1 44)) (τ28.1 44) (τ28.2.1 62) (τ28.2.1 55) (τ28.2.1 36) := q26_1
            replace q26_2 : ∀ r : Int, (J_c1 r (τ_18.1 41) ((τ_18.1 15) - 1 - (τ_18.1 44)) (τ_18.1 44) (τ_18.2.1 62) (τ_18.2.1 55) (τ_18.2.1 36) (τ_18.2.1 58)) → J_c1 r (τ28.1 41) ((τ28.1 15) - 1 - (τ28.1 44)) (τ28.1 44) (τ28.2.1 62) (τ28.2.1 55) (τ28.2.1 36) (τ28.2.1 58) := q26_2
            replace q26_3 : ∀ r : Int, τ28.2.1 58 r ≤ τ_18.2.1 58 r + 1 := q26_3
            replace q26_4 : ∀ B : Int, x25 ≤ B → (∀ p : Int, 0 ≤ p → p < (τ_18.1 42) → τ_18.2.1 63 p ≤ B ∧ τ_18.2.1 36 ((τ_18.1 44) + τ_18.2.1 63 p) < τ_18.2.1 36 ((τ_18.1 44) + τ_18.2.1 63 p + 1)) → ∀ p : Int, 0 ≤ p → p < (τ28.1 42) → τ28.2.1 63 p ≤ B ∧ τ28.2.1 36 ((τ28.1 44) + τ28.2.1 63 p) < τ28.2.1 36 ((τ28.1 44) + τ28.2.1 63 p + 1) := q26_4
            replace q26_5 : n2 = 0 → (∀ n : Int, 0 ≤ n → n < (τ_18.1 41) → 0 ≤ τ_18.2.1 62 n) → ∀ n : Int, 0 ≤ n → n < (τ28.1 41) → 0 ≤ τ28.2.1 62 n := q26_5
            have w15_τ28 : τ28.1 15 = τ_18.1 15 := hf_τ28.1 15 (by decide)
            have w44_τ28 : τ28.1 44 = τ_18.1 44 := hf_τ28.1 44 (by decide)
            have g13_τ28 : τ28.2.1 13 = τ_18.2.1 13 := hf_τ28.2.1 13 (by decide)
            have g28_τ28 : τ28.2.1 28 = τ_18.2.1 28 := hf_τ28.2.1 28 (by decide)
            have g35_τ28 : τ28.2.1 35 = τ_18.2.1 35 := hf_τ28.2.1 35 (by decide)
            have g36_τ28 : τ28.2.1 36 = τ_18.2.1 36 := hf_τ28.2.1 36 (by decide)
            have g37_τ28 : τ28.2.1 37 = τ_18.2.1 37 := hf_τ28.2.1 37 (by decide)
            have g55_τ28 : τ28.2.1 55 = τ_18.2.1 55 := hf_τ28.2.1 55 (by decide)
            have W15 : τ28.1 15 = σ.1 15 := by first | exact w15_τ28.trans W15 | omega
            have W44 : τ28.1 44 = σ.1 44 := by first | exact w44_τ28.trans W44 | omega
            have G13 : τ28.2.1 13 = σ.2.1 13 := (g13_τ28).trans G13
            have G28 : τ28.2.1 28 = σ.2.1 28 := (g28_τ28).trans G28
            have G35 : τ28.2.1 35 = σ.2.1 35 := (g35_τ28).trans G35
            have G36 : τ28.2.1 36 = σ.2.1 36 := (g36_τ28).trans G36
            have G37 : τ28.2.1 37 = σ.2.1 37 := (g37_τ28).trans G37
            have G55 : τ28.2.1 55 = σ.2.1 55 := (g55_τ28).trans G55
            have TR : J_tr (τ28.1 41) ((τ28.1 15) - 1 - (τ28.1 44)) (τ28.1 44) (τ28.2.1 62) (τ28.2.1 55) (τ28.2.1 36) := q26_1
            have A13 : ∀ j, 0 ≤ τ28.2.1 13 j ∧ τ28.2.1 13 j ≤ 4 := fun j => hT.2 13 j
            have A28 : ∀ j, 0 ≤ τ28.2.1 28 j ∧ τ28.2.1 28 j ≤ 60 := fun j => hT.2 28 j
            have A35 : ∀ j, 0 ≤ τ28.2.1 35 j ∧ τ28.2.1 35 j ≤ 1499 := fun j => hT.2 35 j
            have A36 : ∀ j, 0 ≤ τ28.2.1 36 j ∧ τ28.2.1 36 j ≤ 20000 := fun j => hT.2 36 j
            have A37 : ∀ j, 0 ≤ τ28.2.1 37 j ∧ τ28.2.1 37 j ≤ 19999 := fun j => hT.2 37 j
            have A55 : ∀ j, 0 ≤ τ28.2.1 55 j ∧ τ28.2.1 55 j ≤ 19999 := fun j => hT.2 55 j
            have A58 : ∀ j, (-2147483648) ≤ τ28.2.1 58 j ∧ τ28.2.1 58 j ≤ 2147483647 := fun j => hT.2 58 j
            have A62 : ∀ j, (-20000) ≤ τ28.2.1 62 j ∧ τ28.2.1 62 j ≤ 19999 := fun j => hT.2 62 j
            have A63 : ∀ j, 0 ≤ τ28.2.1 63 j ∧ τ28.2.1 63 j ≤ 19999 := fun j => hT.2 63 j
            have A64 : ∀ j, 0 ≤ τ28.2.1 64 j ∧ τ28.2.1 64 j ≤ 20000 := fun j => hT.2 64 j
            have v15 : 0 ≤ τ28.1 15 ∧ τ28.1 15 ≤ 20000 := hT.1 15
            have v41 : 0 ≤ τ28.1 41 ∧ τ28.1 41 ≤ 20001 := hT.1 41
            have v42 : 0 ≤ τ28.1 42 ∧ τ28.1 42 ≤ 20000 := hT.1 42
            have v44 : 0 ≤ τ28.1 44 ∧ τ28.1 44 ≤ 20000 := hT.1 44
            refine ⟨(⟨by (first | omega | (simp only [st_s] <;> omega) | assumption | omega | fail), by (first | omega | (simp only [st_s] <;> omega) | assumption | omega | fail)⟩ : rg (u3_18 + 1)), ?_⟩
            exact ih_18 _ _ (show (1000001 - (u3_18 + 1) : Int) < ((m_18 : Nat) : Int) from by ((first | omega | (simp only [st_s] <;> omega) | assumption | omega | fail))) hT (show τ28.1 15 = σ.1 15 from by first | exact W15 | omega) (show τ28.1 44 = σ.1 44 from by first | exact W44 | omega) G13 G28 G35 G36 G37 G55 (show 0 ≤ (u3_18 + 1) from by (first | omega | (simp only [st_s] <;> omega) | assumption | omega | fail)) (show (u3_18 + 1) ≤ 1000000 from by (first | omega | (simp only [st_s] <;> omega) | assumption | omega | fail)) (show ∀ p : Int, 0 ≤ p → p < (τ28.1 42) → τ28.2.1 63 p ≤ n1 ∧ τ28.2.1 36 ((τ28.1 44) + τ28.2.1 63 p) < τ28.2.1 36 ((τ28.1 44) + τ28.2.1 63 p + 1) from by (first | exact q1_4 n1 (Int.le_refl _) (fun p a b => by exfalso; omega) | exact q26_4 n1 (by omega) i18_3 | (intro p a b; rw [g63_τ16, g36_τ16, w44_τ16]; exact i18_3 p a (by omega)) | fail)) (show J_tr (τ28.1 41) ((τ28.1 15) - 1 - (τ28.1 44)) (τ28.1 44) (τ28.2.1 62) (τ28.2.1 55) (τ28.2.1 36) from TR) (show n2 = 0 → ∀ n : Int, 0 ≤ n → n < (τ28.1 41) → 0 ≤ τ28.2.1 62 n from by (first | exact fun z => q1_5 z (fun n a b => by exfalso; omega) | exact fun z => q26_5 z (i18_5 z) | (intro z n a b; have h := i18_5 z; by_cases y : 20001 ≤ τ_18.1 41; (have w := q14_1 y; rw [w.1]; exact h n a (by omega)); (have w := q14_2 (by omega); rw [w.1]; by_cases v : n = τ_18.1 41; (rw [v, st_s]; omega); (rw [st_n _ _ v]; exact h n a (by omega)))) | fail)) (show ¬ n2 = 0 → ∀ r : Int, 0 ≤ r → r ≤ n1 → J_c1 r (τ28.1 41) ((τ28.1 15) - 1 - (τ28.1 44)) (τ28.1 44) (τ28.2.1 62) (τ28.2.1 55) (τ28.2.1 36) (τ28.2.1 58) from by (first | exact fun z r a b => q1_2 r (fun c d => by exfalso; have := p5 z r a b; omega) | exact fun z r a b => q26_2 r (i18_6 z r a b) | (intro z r a b; have h := i18_6 z r a b; rw [w44_τ16, w15_τ16, g55_τ16, g36_τ16, g58_τ16]; by_cases y : 20001 ≤ τ_18.1 41; (have w := q14_1 y; intro c; exfalso; omega); (have w := q14_2 (by omega); rw [w.1, w.2]; exact J_c1_n h (by omega) (by omega) sk.2 (by rw [e_x18, g55_τ16]) (by omega))) | fail)) (show ¬ n2 = 0 → ∀ r : Int, 0 ≤ r → r ≤ n1 → τ28.2.1 58 r ≤ (u3_18 + 1) + 2 from by (intro z r a b; first | (have w := q1_3 r; have v := p5 z r a b; omega) | (have w := q26_3 r; have v := i18_7 z r a b; omega) | (rw [g58_τ16]; by_cases y : r = x18; (rw [y, st_s]; omega); (rw [st_n _ _ y]; have v := i18_7 z r a b; omega))))
  replace hT := cT_v (i := 41) hT (show (0 : Int) ≤ 0 ∧ 0 ≤ 20001 from by (first | omega | (simp only [st_s] <;> omega) | assumption | omega | fail))
  replace hT := cT_v (i := 42) hT (show (0 : Int) ≤ 0 ∧ 0 ≤ 20000 from by (first | omega | (simp only [st_s] <;> omega) | assumption | omega | fail))
  have mo := J_pk_m pk f0 (r := n1) (by omega) (by omega)
  have sa1 := fun z => p4 z n1 (by omega) (by omega)
  have tz := fun z => p5 z (σ.2.1 55 n1) (sa1 z).1 (by have := (sa1 z).2; omega)
  refine ⟨_, K_X4_enter hT (show 0 ≤ n1 from by (first | omega | (simp only [st_s] <;> omega) | assumption | omega | fail)) (show (σ.1 44) + n1 < (σ.1 15) from by (first | omega | (simp only [st_s] <;> omega) | assumption | omega | fail)) (show 0 ≤ n2 ∧ n2 ≤ 1 from by (first | omega | (simp only [st_s] <;> omega) | assumption | omega | fail)) (show σ.2.1 36 ((σ.1 44) + n1) ≤ σ.2.1 36 ((σ.1 44) + n1 + 1) from by (first | omega | (simp only [st_s] <;> omega) | assumption | omega | fail)) (show J_tr ((0 : Int)) ((σ.1 15) - 1 - (σ.1 44)) (σ.1 44) (σ.2.1 62) (σ.2.1 55) (σ.2.1 36) from by exact J_tr0 _ _ _ _ _) (show ¬ n2 = 0 → J_c1 (σ.2.1 55 n1) ((0 : Int)) ((σ.1 15) - 1 - (σ.1 44)) (σ.1 44) (σ.2.1 62) (σ.2.1 55) (σ.2.1 36) (σ.2.1 58) from by (intro z a b; have w := tz z; omega)) (show ¬ n2 = 0 → σ.2.1 58 (σ.2.1 55 n1) ≤ 2000000 from by (intro z; have w := tz z; omega)), ?_⟩
  intro τ3 hn_τ3 hf_τ3 hq
  obtain ⟨hT, q1_1, q1_2, q1_3, q1_4, q1_5⟩ := hq
  replace q1_1 : J_tr (τ3.1 41) ((τ3.1 15) - 1 - (τ3.1 44)) (τ3.1 44) (τ3.2.1 62) (τ3.2.1 55) (τ3.2.1 36) := q1_1
  replace q1_2 : ∀ r : Int, (J_c1 r ((0 : Int)) ((σ.1 15) - 1 - (σ.1 44)) (σ.1 44) (σ.2.1 62) (σ.2.1 55) (σ.2.1 36) (σ.2.1 58)) → J_c1 r (τ3.1 41) ((τ3.1 15) - 1 - (τ3.1 44)) (τ3.1 44) (τ3.2.1 62) (τ3.2.1 55) (τ3.2.1 36) (τ3.2.1 58) := q1_2
  replace q1_3 : ∀ r : Int, τ3.2.1 58 r ≤ σ.2.1 58 r + 1 := q1_3
  replace q1_4 : ∀ B : Int, n1 ≤ B → (∀ p : Int, 0 ≤ p → p < ((0 : Int)) → σ.2.1 63 p ≤ B ∧ σ.2.1 36 ((σ.1 44) + σ.2.1 63 p) < σ.2.1 36 ((σ.1 44) + σ.2.1 63 p + 1)) → ∀ p : Int, 0 ≤ p → p < (τ3.1 42) → τ3.2.1 63 p ≤ B ∧ τ3.2.1 36 ((τ3.1 44) + τ3.2.1 63 p) < τ3.2.1 36 ((τ3.1 44) + τ3.2.1 63 p + 1) := q1_4
  replace q1_5 : n2 = 0 → (∀ n : Int, 0 ≤ n → n < ((0 : Int)) → 0 ≤ σ.2.1 62 n) → ∀ n : Int, 0 ≤ n → n < (τ3.1 41) → 0 ≤ τ3.2.1 62 n := q1_5
  have w15_τ3 : τ3.1 15 = σ.1 15 := hf_τ3.1 15 (by decide)
  have w44_τ3 : τ3.1 44 = σ.1 44 := hf_τ3.1 44 (by decide)
  have g13_τ3 : τ3.2.1 13 = σ.2.1 13 := hf_τ3.2.1 13 (by decide)
  have g28_τ3 : τ3.2.1 28 = σ.2.1 28 := hf_τ3.2.1 28 (by decide)
  have g35_τ3 : τ3.2.1 35 = σ.2.1 35 := hf_τ3.2.1 35 (by decide)
  have g36_τ3 : τ3.2.1 36 = σ.2.1 36 := hf_τ3.2.1 36 (by decide)
  have g37_τ3 : τ3.2.1 37 = σ.2.1 37 := hf_τ3.2.1 37 (by decide)
  have g55_τ3 : τ3.2.1 55 = σ.2.1 55 := hf_τ3.2.1 55 (by decide)
  have W15 : τ3.1 15 = σ.1 15 := by first | exact w15_τ3.trans W15 | omega
  have W44 : τ3.1 44 = σ.1 44 := by first | exact w44_τ3.trans W44 | omega
  have G13 : τ3.2.1 13 = σ.2.1 13 := (g13_τ3).trans G13
  have G28 : τ3.2.1 28 = σ.2.1 28 := (g28_τ3).trans G28
  have G35 : τ3.2.1 35 = σ.2.1 35 := (g35_τ3).trans G35
  have G36 : τ3.2.1 36 = σ.2.1 36 := (g36_τ3).trans G36
  have G37 : τ3.2.1 37 = σ.2.1 37 := (g37_τ3).trans G37
  have G55 : τ3.2.1 55 = σ.2.1 55 := (g55_τ3).trans G55
  have TR : J_tr (τ3.1 41) ((τ3.1 15) - 1 - (τ3.1 44)) (τ3.1 44) (τ3.2.1 62) (τ3.2.1 55) (τ3.2.1 36) := q1_1
  have A13 : ∀ j, 0 ≤ τ3.2.1 13 j ∧ τ3.2.1 13 j ≤ 4 := fun j => hT.2 13 j
  have A28 : ∀ j, 0 ≤ τ3.2.1 28 j ∧ τ3.2.1 28 j ≤ 60 := fun j => hT.2 28 j
  have A35 : ∀ j, 0 ≤ τ3.2.1 35 j ∧ τ3.2.1 35 j ≤ 1499 := fun j => hT.2 35 j
  have A36 : ∀ j, 0 ≤ τ3.2.1 36 j ∧ τ3.2.1 36 j ≤ 20000 := fun j => hT.2 36 j
  have A37 : ∀ j, 0 ≤ τ3.2.1 37 j ∧ τ3.2.1 37 j ≤ 19999 := fun j => hT.2 37 j
  have A55 : ∀ j, 0 ≤ τ3.2.1 55 j ∧ τ3.2.1 55 j ≤ 19999 := fun j => hT.2 55 j
  have A58 : ∀ j, (-2147483648) ≤ τ3.2.1 58 j ∧ τ3.2.1 58 j ≤ 2147483647 := fun j => hT.2 58 j
  have A62 : ∀ j, (-20000) ≤ τ3.2.1 62 j ∧ τ3.2.1 62 j ≤ 19999 := fun j => hT.2 62 j
  have A63 : ∀ j, 0 ≤ τ3.2.1 63 j ∧ τ3.2.1 63 j ≤ 19999 := fun j => hT.2 63 j
  have A64 : ∀ j, 0 ≤ τ3.2.1 64 j ∧ τ3.2.1 64 j ≤ 20000 := fun j => hT.2 64 j
  have v15 : 0 ≤ τ3.1 15 ∧ τ3.1 15 ≤ 20000 := hT.1 15
  have v41 : 0 ≤ τ3.1 41 ∧ τ3.1 41 ≤ 20001 := hT.1 41
  have v42 : 0 ≤ τ3.1 42 ∧ τ3.1 42 ≤ 20000 := hT.1 42
  have v44 : 0 ≤ τ3.1 44 ∧ τ3.1 44 ≤ 20000 := hT.1 44
  exact l_18 ((1000001 - 0 : Int).toNat + 1) _ _ (show (1000001 - 0 : Int) < (((1000001 - 0 : Int).toNat + 1 : Nat) : Int) from by ((first | omega | (simp only [st_s] <;> omega) | assumption | omega | fail))) hT (show τ3.1 15 = σ.1 15 from by first | exact W15 | omega) (show τ3.1 44 = σ.1 44 from by first | exact W44 | omega) G13 G28 G35 G36 G37 G55 (show 0 ≤ 0 from by (first | omega | (simp only [st_s] <;> omega) | assumption | omega | fail)) (show 0 ≤ 1000000 from by (first | omega | (simp only [st_s] <;> omega) | assumption | omega | fail)) (show ∀ p : Int, 0 ≤ p → p < (τ3.1 42) → τ3.2.1 63 p ≤ n1 ∧ τ3.2.1 36 ((τ3.1 44) + τ3.2.1 63 p) < τ3.2.1 36 ((τ3.1 44) + τ3.2.1 63 p + 1) from by (first | exact q1_4 n1 (Int.le_refl _) (fun p a b => by exfalso; omega) | exact q26_4 n1 (by omega) i18_3 | (intro p a b; rw [g63_τ16, g36_τ16, w44_τ16]; exact i18_3 p a (by omega)) | fail)) (show J_tr (τ3.1 41) ((τ3.1 15) - 1 - (τ3.1 44)) (τ3.1 44) (τ3.2.1 62) (τ3.2.1 55) (τ3.2.1 36) from TR) (show n2 = 0 → ∀ n : Int, 0 ≤ n → n < (τ3.1 41) → 0 ≤ τ3.2.1 62 n from by (first | exact fun z => q1_5 z (fun n a b => by exfalso; omega) | exact fun z => q26_5 z (i18_5 z) | (intro z n a b; have h := i18_5 z; by_cases y : 20001 ≤ τ_18.1 41; (have w := q14_1 y; rw [w.1]; exact h n a (by omega)); (have w := q14_2 (by omega); rw [w.1]; by_cases v : n = τ_18.1 41; (rw [v, st_s]; omega); (rw [st_n _ _ v]; exact h n a (by omega)))) | fail)) (show ¬ n2 = 0 → ∀ r : Int, 0 ≤ r → r ≤ n1 → J_c1 r (τ3.1 41) ((τ3.1 15) - 1 - (τ3.1 44)) (τ3.1 44) (τ3.2.1 62) (τ3.2.1 55) (τ3.2.1 36) (τ3.2.1 58) from by (first | exact fun z r a b => q1_2 r (fun c d => by exfalso; have := p5 z r a b; omega) | exact fun z r a b => q26_2 r (i18_6 z r a b) | (intro z r a b; have h := i18_6 z r a b; rw [w44_τ16, w15_τ16, g55_τ16, g36_τ16, g58_τ16]; by_cases y : 20001 ≤ τ_18.1 41; (have w := q14_1 y; intro c; exfalso; omega); (have w := q14_2 (by omega); rw [w.1, w.2]; exact J_c1_n h (by omega) (by omega) sk.2 (by rw [e_x18, g55_τ16]) (by omega))) | fail)) (show ¬ n2 = 0 → ∀ r : Int, 0 ≤ r → r ≤ n1 → τ3.2.1 58 r ≤ 0 + 2 from by (intro z r a b; first | (have w := q1_3 r; have v := p5 z r a b; omega) | (have w := q26_3 r; have v := i18_7 z r a b; omega) | (rw [g58_τ16]; by_cases y : r = x18; (rw [y, st_s]; omega); (rw [st_n _ _ y]; have v := i18_7 z r a b; omega))))
set_option maxHeartbeats 1000000 in
theorem K_J7_fill_53178_q76 {n1 : Int} {σ : S0} (hT : c_T σ) (p1 : n1 = 0) : W_J7_fill_53178_q76 n1 σ (fun (τ : S0) => (c_T τ) ∧ (∀ e : Int, 0 ≤ e → e < 1500 → τ.2.1 60 e = 0)) := by
  intro P5 h5
  have l_5 : ∀ (m_5 : Nat) (u2_5 : Int) (τ_5 : S0), 1501 - u2_5 < (m_5 : Int) → (c_T τ_5) → (0 ≤ u2_5) → (u2_5 ≤ 1500) → (∀ e : Int, 0 ≤ e → e < u2_5 → τ_5.2.1 60 e = 0) → P5 n1 u2_5 1500 τ_5 := by
    intro m_5
    induction m_5 with
    | zero =>
      intro u2_5 τ_5 hm hT i5_1 i5_2 i5_3
      exfalso; (first | omega | (simp only [st_s] <;> omega) | assumption | omega | fail)
    | succ m_5 ih_5 =>
      intro u2_5 τ_5 hm_5 hT i5_1 i5_2 i5_3
      refine h5 n1 u2_5 1500 τ_5 ?_
      refine ⟨fun c1 => ?_, fun c1 => ?_⟩
      ·
        exact ⟨hT, (show ∀ e : Int, 0 ≤ e → e < 1500 → τ_5.2.1 60 e = 0 from by exact fun e a b => i5_3 e a (by omega))⟩
      ·
        refine ⟨(show 0 ≤ u2_5 ∧ u2_5 < 1500 from by (first | omega | (simp only [st_s] <;> omega) | assumption | omega | fail)), ?_⟩
        replace hT := cT_a (k := 60) (j := u2_5) hT (show (0 : Int) ≤ n1 ∧ n1 ≤ 2000 from by (first | omega | (simp only [st_s] <;> omega) | assumption | omega | fail))
        refine ⟨(⟨by (first | omega | (simp only [st_s] <;> omega) | assumption | omega | fail), by (first | omega | (simp only [st_s] <;> omega) | assumption | omega | fail)⟩ : rg (u2_5 + 1)), ?_⟩
        exact ih_5 _ _ (show (1501 - (u2_5 + 1) : Int) < ((m_5 : Nat) : Int) from by ((first | omega | (simp only [st_s] <;> omega) | assumption | omega | fail))) hT (show 0 ≤ (u2_5 + 1) from by (first | omega | (simp only [st_s] <;> omega) | assumption | omega | fail)) (show (u2_5 + 1) ≤ 1500 from by (first | omega | (simp only [st_s] <;> omega) | assumption | omega | fail)) (show ∀ e : Int, 0 ≤ e → e < (u2_5 + 1) → (st (τ_5.2.1 60) u2_5 n1) e = 0 from by (first | (intro e a b; exfalso; omega) | (intro e a b; by_cases z : e = u2_5; (rw [z, st_s]; exact p1); exact (st_n _ _ z).trans (i5_3 e a (by omega))) | fail))
  exact l_5 ((1501 - 0 : Int).toNat + 1) _ _ (show (1501 - 0 : Int) < (((1501 - 0 : Int).toNat + 1 : Nat) : Int) from by ((first | omega | (simp only [st_s] <;> omega) | assumption | omega | fail))) hT (show 0 ≤ 0 from by (first | omega | (simp only [st_s] <;> omega) | assumption | omega | fail)) (show 0 ≤ 1500 from by (first | omega | (simp only [st_s] <;> omega) | assumption | omega | fail)) (show ∀ e : Int, 0 ≤ e → e < 0 → σ.2.1 60 e = 0 from by (first | (intro e a b; exfalso; omega) | (intro e a b; by_cases z : e = u2_5; (rw [z, st_s]; exact p1); exact (st_n _ _ z).trans (i5_3 e a (by omega))) | fail))
set_option maxHeartbeats 1000000 in
theorem K_X4_statementOf {n1 : Int} {σ : S0} (hT : c_T σ) (p1 : 0 ≤ n1) (p2 : n1 < 20001) (p3 : σ.2.1 62 n1 ≤ (σ.1 15) - 1 - (σ.1 44)) : W_X4_statementOf n1 σ (fun (x : Int) => (-1 ≤ x ∧ x ≤ 1499) ∧ (0 ≤ σ.2.1 62 n1 → 0 ≤ x) ∧ (σ.2.1 62 n1 < 0 → x = -1)) := by
  have A35 : ∀ j, 0 ≤ σ.2.1 35 j ∧ σ.2.1 35 j ≤ 1499 := fun j => hT.2 35 j
  have A62 : ∀ j, (-20000) ≤ σ.2.1 62 j ∧ σ.2.1 62 j ≤ 19999 := fun j => hT.2 62 j
  have v15 : 0 ≤ σ.1 15 ∧ σ.1 15 ≤ 20000 := hT.1 15
  have v44 : 0 ≤ σ.1 44 ∧ σ.1 44 ≤ 20000 := hT.1 44
  unfold W_X4_statementOf
  refine ⟨(show 0 ≤ n1 ∧ n1 < 20001 from by (first | omega | (simp only [st_s] <;> omega) | assumption | omega | fail)), ?_⟩
  intro x2 r_x2 e_x2
  have b_x2 : (-20000) ≤ x2 ∧ x2 ≤ 19999 := by rw [e_x2]; exact hT.2 62 _
  refine ⟨fun c3 => ?_, fun c3 => ?_⟩
  ·
    intro x4 r_x4 e_x4
    have b_x4 : (-20000) ≤ x4 ∧ x4 ≤ 19999 := by rw [e_x4]; exact hT.2 62 _
    refine ⟨(show 0 ≤ (σ.1 44 + x4) ∧ (σ.1 44 + x4) < 20000 from by (first | omega | (simp only [st_s] <;> omega) | assumption | omega | fail)), ?_⟩
    intro x6 r_x6 e_x6
    have b_x6 : 0 ≤ x6 ∧ x6 ≤ 1499 := by rw [e_x6]; exact hT.2 35 _
    exact ⟨(show -1 ≤ x6 ∧ x6 ≤ 1499 from by (first | omega | (simp only [st_s] <;> omega) | assumption | omega | fail)), (show 0 ≤ σ.2.1 62 n1 → 0 ≤ x6 from by (first | omega | (simp only [st_s] <;> omega) | assumption | omega | fail)), (show σ.2.1 62 n1 < 0 → x6 = -1 from by (first | omega | (simp only [st_s] <;> omega) | assumption | omega | fail))⟩
  ·
    exact ⟨(show -1 ≤ (-1) ∧ (-1) ≤ 1499 from by (first | omega | (simp only [st_s] <;> omega) | assumption | omega | fail)), (show 0 ≤ σ.2.1 62 n1 → 0 ≤ (-1) from by (first | omega | (simp only [st_s] <;> omega) | assumption | omega | fail)), (show σ.2.1 62 n1 < 0 → (-1) = -1 from by (first | omega | (simp only [st_s] <;> omega) | assumption | omega | fail))⟩
set_option maxHeartbeats 1000000 in
theorem K_X4_saves {n1 : Int} {σ : S0} (hT : c_T σ) (p1 : 0 ≤ n1) (p2 : n1 < 20001) (p3 : σ.2.1 62 n1 ≤ (σ.1 15) - 1 - (σ.1 44)) : W_X4_saves n1 σ (fun (x : Int) => (0 ≤ x ∧ x ≤ 1) ∧ (¬ x = 0 → 0 ≤ σ.2.1 62 n1)) := by
  have A62 : ∀ j, (-20000) ≤ σ.2.1 62 j ∧ σ.2.1 62 j ≤ 19999 := fun j => hT.2 62 j
  have v15 : 0 ≤ σ.1 15 ∧ σ.1 15 ≤ 20000 := hT.1 15
  have v44 : 0 ≤ σ.1 44 ∧ σ.1 44 ≤ 20000 := hT.1 44
  unfold W_X4_saves
  refine ⟨(show 0 ≤ n1 ∧ n1 < 20001 from by (first | omega | (simp only [st_s] <;> omega) | assumption | omega | fail)), ?_⟩
  intro x2 r_x2 e_x2
  have b_x2 : (-20000) ≤ x2 ∧ x2 ≤ 19999 := by rw [e_x2]; exact hT.2 62 _
  refine ⟨fun c3 => ?_, fun c3 => ?_⟩
  ·
    exact ⟨(show 0 ≤ 0 ∧ 0 ≤ 1 from by (first | omega | (simp only [st_s] <;> omega) | assumption | omega | fail)), (show ¬ 0 = 0 → 0 ≤ σ.2.1 62 n1 from by (first | omega | (simp only [st_s] <;> omega) | assumption | omega | fail))⟩
  ·
    intro x4 r_x4 e_x4
    have b_x4 : (-20000) ≤ x4 ∧ x4 ≤ 19999 := by rw [e_x4]; exact hT.2 62 _
    refine ⟨(⟨by (first | omega | (simp only [st_s] <;> omega) | assumption | omega | fail), by (first | omega | (simp only [st_s] <;> omega) | assumption | omega | fail)⟩ : rg (σ.1 44 + x4)), ?_⟩
    refine ⟨_, K_X0_childCount hT (show 0 ≤ (σ.1 44 + x4) from by (first | omega | (simp only [st_s] <;> omega) | assumption | omega | fail)) (show (σ.1 44 + x4) < 20000 from by (first | omega | (simp only [st_s] <;> omega) | assumption | omega | fail)), ?_⟩
    intro x7 r_x7 hq
    have q6_1 := hq
    replace q6_1 : x7 = σ.2.1 36 ((σ.1 44 + x4) + 1) - σ.2.1 36 (σ.1 44 + x4) := q6_1
    refine ⟨fun c9 => ?_, fun c9 => ?_⟩
    ·
      exact ⟨(show 0 ≤ 0 ∧ 0 ≤ 1 from by (first | omega | (simp only [st_s] <;> omega) | assumption | omega | fail)), (show ¬ 0 = 0 → 0 ≤ σ.2.1 62 n1 from by (first | omega | (simp only [st_s] <;> omega) | assumption | omega | fail))⟩
    ·
      intro x10 r_x10 e_x10
      have b_x10 : (-20000) ≤ x10 ∧ x10 ≤ 19999 := by rw [e_x10]; exact hT.2 62 _
      refine ⟨(show 0 ≤ x10 ∧ x10 < 20000 from by (first | omega | (simp only [st_s] <;> omega) | assumption | omega | fail)), ?_⟩
      intro x12 r_x12 e_x12
      have b_x12 : 0 ≤ x12 ∧ x12 ≤ 19999 := by rw [e_x12]; exact hT.2 55 _
      refine ⟨(show 0 ≤ x12 ∧ x12 < 20000 from by (first | omega | (simp only [st_s] <;> omega) | assumption | omega | fail)), ?_⟩
      intro x14 r_x14 e_x14
      have b_x14 : (-2147483648) ≤ x14 ∧ x14 ≤ 2147483647 := by rw [e_x14]; exact hT.2 58 _
      refine ⟨fun c15 => ?_, fun c15 => ?_⟩
      ·
        exact ⟨(show 0 ≤ 0 ∧ 0 ≤ 1 from by (first | omega | (simp only [st_s] <;> omega) | assumption | omega | fail)), (show ¬ 0 = 0 → 0 ≤ σ.2.1 62 n1 from by (first | omega | (simp only [st_s] <;> omega) | assumption | omega | fail))⟩
      ·
        exact ⟨(show 0 ≤ 1 ∧ 1 ≤ 1 from by (first | omega | (simp only [st_s] <;> omega) | assumption | omega | fail)), (show ¬ 1 = 0 → 0 ≤ σ.2.1 62 n1 from by (first | omega | (simp only [st_s] <;> omega) | assumption | omega | fail))⟩
set_option maxHeartbeats 1000000 in
theorem K_X4_giveNumbers {n1 : Int} {σ : S0} (hT : c_T σ) (p1 : 0 ≤ n1) (p2 : n1 < 1500) (p3 : σ.2.1 27 n1 + σ.2.1 28 n1 ≤ 90000) (p4 : J_tr (σ.1 41) ((σ.1 15) - 1 - (σ.1 44)) (σ.1 44) (σ.2.1 62) (σ.2.1 55) (σ.2.1 36)) : W_X4_giveNumbers n1 σ (fun (τ : S0) => (c_T τ)) := by
  have A27 : ∀ j, 0 ≤ σ.2.1 27 j ∧ σ.2.1 27 j ≤ 90000 := fun j => hT.2 27 j
  have A28 : ∀ j, 0 ≤ σ.2.1 28 j ∧ σ.2.1 28 j ≤ 60 := fun j => hT.2 28 j
  have A36 : ∀ j, 0 ≤ σ.2.1 36 j ∧ σ.2.1 36 j ≤ 20000 := fun j => hT.2 36 j
  have A55 : ∀ j, 0 ≤ σ.2.1 55 j ∧ σ.2.1 55 j ≤ 19999 := fun j => hT.2 55 j
  have A60 : ∀ j, 0 ≤ σ.2.1 60 j ∧ σ.2.1 60 j ≤ 2000 := fun j => hT.2 60 j
  have A62 : ∀ j, (-20000) ≤ σ.2.1 62 j ∧ σ.2.1 62 j ≤ 19999 := fun j => hT.2 62 j
  have v15 : 0 ≤ σ.1 15 ∧ σ.1 15 ≤ 20000 := hT.1 15
  have v40 : 0 ≤ σ.1 40 ∧ σ.1 40 ≤ 1500 := hT.1 40
  have v41 : 0 ≤ σ.1 41 ∧ σ.1 41 ≤ 20001 := hT.1 41
  have v44 : 0 ≤ σ.1 44 ∧ σ.1 44 ≤ 20000 := hT.1 44
  have W15 : σ.1 15 = σ.1 15 := rfl
  have W41 : σ.1 41 = σ.1 41 := rfl
  have W44 : σ.1 44 = σ.1 44 := rfl
  have G27 : σ.2.1 27 = σ.2.1 27 := rfl
  have G28 : σ.2.1 28 = σ.2.1 28 := rfl
  have G36 : σ.2.1 36 = σ.2.1 36 := rfl
  have G55 : σ.2.1 55 = σ.2.1 55 := rfl
  have G62 : σ.2.1 62 = σ.2.1 62 := rfl
  intro P20 P65 P146 h20 h65 h146
  have TR : J_tr (σ.1 41) ((σ.1 15) - 1 - (σ.1 44)) (σ.1 44) (σ.2.1 62) (σ.2.1 55) (σ.2.1 36) := p4
  have TR_0 := TR
  have l_146 : ∀ (m_146 : Nat) (u3_146 : Int) (u4_146 : Int) (τ_146 : S0), 20002 - u4_146 < (m_146 : Int) → (c_T τ_146) → (τ_146.1 15 = σ.1 15) → (τ_146.1 41 = σ.1 41) → (τ_146.1 44 = σ.1 44) → (τ_146.2.1 27 = σ.2.1 27) → (τ_146.2.1 28 = σ.2.1 28) → (τ_146.2.1 36 = σ.2.1 36) → (τ_146.2.1 55 = σ.2.1 55) → (τ_146.2.1 62 = σ.2.1 62) → (0 ≤ u3_146) → (u3_146 ≤ 1560 + u4_146) → (0 ≤ u4_146) → (u4_146 ≤ 20001) → P146 u3_146 u4_146 τ_146 := by
    intro m_146
    induction m_146 with
    | zero =>
      intro u3_146 u4_146 τ_146 hm hT W15 W41 W44 G27 G28 G36 G55 G62 i146_1 i146_2 i146_3 i146_4
      have A27 : ∀ j, 0 ≤ τ_146.2.1 27 j ∧ τ_146.2.1 27 j ≤ 90000 := fun j => hT.2 27 j
      have A28 : ∀ j, 0 ≤ τ_146.2.1 28 j ∧ τ_146.2.1 28 j ≤ 60 := fun j => hT.2 28 j
      have A36 : ∀ j, 0 ≤ τ_146.2.1 36 j ∧ τ_146.2.1 36 j ≤ 20000 := fun j => hT.2 36 j
      have A55 : ∀ j, 0 ≤ τ_146.2.1 55 j ∧ τ_146.2.1 55 j ≤ 19999 := fun j => hT.2 55 j
      have A60 : ∀ j, 0 ≤ τ_146.2.1 60 j ∧ τ_146.2.1 60 j ≤ 2000 := fun j => hT.2 60 j
      have A62 : ∀ j, (-20000) ≤ τ_146.2.1 62 j ∧ τ_146.2.1 62 j ≤ 19999 := fun j => hT.2 62 j
      have v15 : 0 ≤ τ_146.1 15 ∧ τ_146.1 15 ≤ 20000 := hT.1 15
      have v40 : 0 ≤ τ_146.1 40 ∧ τ_146.1 40 ≤ 1500 := hT.1 40
      have v41 : 0 ≤ τ_146.1 41 ∧ τ_146.1 41 ≤ 20001 := hT.1 41
      have v44 : 0 ≤ τ_146.1 44 ∧ τ_146.1 44 ≤ 20000 := hT.1 44
      exfalso; (first | omega | (simp only [st_s] <;> omega) | assumption | omega | fail)
    | succ m_146 ih_146 =>
      intro u3_146 u4_146 τ_146 hm_146 hT W15 W41 W44 G27 G28 G36 G55 G62 i146_1 i146_2 i146_3 i146_4
      have A27 : ∀ j, 0 ≤ τ_146.2.1 27 j ∧ τ_146.2.1 27 j ≤ 90000 := fun j => hT.2 27 j
      have A28 : ∀ j, 0 ≤ τ_146.2.1 28 j ∧ τ_146.2.1 28 j ≤ 60 := fun j => hT.2 28 j
      have A36 : ∀ j, 0 ≤ τ_146.2.1 36 j ∧ τ_146.2.1 36 j ≤ 20000 := fun j => hT.2 36 j
      have A55 : ∀ j, 0 ≤ τ_146.2.1 55 j ∧ τ_146.2.1 55 j ≤ 19999 := fun j => hT.2 55 j
      have A60 : ∀ j, 0 ≤ τ_146.2.1 60 j ∧ τ_146.2.1 60 j ≤ 2000 := fun j => hT.2 60 j
      have A62 : ∀ j, (-20000) ≤ τ_146.2.1 62 j ∧ τ_146.2.1 62 j ≤ 19999 := fun j => hT.2 62 j
      have v15 : 0 ≤ τ_146.1 15 ∧ τ_146.1 15 ≤ 20000 := hT.1 15
      have v40 : 0 ≤ τ_146.1 40 ∧ τ_146.1 40 ≤ 1500 := hT.1 40
      have v41 : 0 ≤ τ_146.1 41 ∧ τ_146.1 41 ≤ 20001 := hT.1 41
      have v44 : 0 ≤ τ_146.1 44 ∧ τ_146.1 44 ≤ 20000 := hT.1 44
      have TR : J_tr (τ_146.1 41) ((τ_146.1 15) - 1 - (τ_146.1 44)) (τ_146.1 44) (τ_146.2.1 62) (τ_146.2.1 55) (τ_146.2.1 36) := by rw [show (J_tr (τ_146.1 41) ((τ_146.1 15) - 1 - (τ_146.1 44)) (τ_146.1 44) (τ_146.2.1 62) (τ_146.2.1 55) (τ_146.2.1 36)) = (J_tr (σ.1 41) ((σ.1 15) - 1 - (σ.1 44)) (σ.1 44) (σ.2.1 62) (σ.2.1 55) (σ.2.1 36)) from by rw [W15, W41, W44, G36, G55, G62]]; exact TR_0
      refine h146 u3_146 u4_146 τ_146 ?_
      refine ⟨fun c28 => ?_, fun c28 => ?_⟩
      ·
        exact hT
      ·
        have tr := TR u4_146 (by omega) (by omega)
        refine ⟨_, K_X4_saves hT (show 0 ≤ u4_146 from by (first | omega | (simp only [st_s] <;> omega) | assumption | omega | fail)) (show u4_146 < 20001 from by (first | omega | (simp only [st_s] <;> omega) | assumption | omega | fail)) (show τ_146.2.1 62 u4_146 ≤ (τ_146.1 15) - 1 - (τ_146.1 44) from by (first | omega | (simp only [st_s] <;> omega) | assumption | omega | fail)), ?_⟩
        intro x30 r_x30 hq
        obtain ⟨q29_1, q29_2⟩ := hq
        replace q29_1 : 0 ≤ x30 ∧ x30 ≤ 1 := q29_1
        replace q29_2 : ¬ x30 = 0 → 0 ≤ τ_146.2.1 62 u4_146 := q29_2
        refine ⟨fun c32 => ?_, fun c32 => ?_⟩
        ·
          refine ⟨(⟨by (first | omega | (simp only [st_s] <;> omega) | assumption | omega | fail), by (first | omega | (simp only [st_s] <;> omega) | assumption | omega | fail)⟩ : rg (u4_146 + 1)), ?_⟩
          exact ih_146 _ _ _ (show (20002 - (u4_146 + 1) : Int) < ((m_146 : Nat) : Int) from by ((first | omega | (simp only [st_s] <;> omega) | assumption | omega | fail))) hT (show τ_146.1 15 = σ.1 15 from by first | exact W15 | omega) (show τ_146.1 41 = σ.1 41 from by first | exact W41 | omega) (show τ_146.1 44 = σ.1 44 from by first | exact W44 | omega) G27 G28 G36 G55 G62 (show 0 ≤ u3_146 from by (first | omega | (simp only [st_s] <;> omega) | assumption | omega | fail)) (show u3_146 ≤ 1560 + (u4_146 + 1) from by (first | omega | (simp only [st_s] <;> omega) | assumption | omega | fail)) (show 0 ≤ (u4_146 + 1) from by (first | omega | (simp only [st_s] <;> omega) | assumption | omega | fail)) (show (u4_146 + 1) ≤ 20001 from by (first | omega | (simp only [st_s] <;> omega) | assumption | omega | fail))
        ·
          refine ⟨(show 0 ≤ u4_146 ∧ u4_146 < 20001 from by (first | omega | (simp only [st_s] <;> omega) | assumption | omega | fail)), ?_⟩
          intro x35 r_x35 e_x35
          have b_x35 : (-20000) ≤ x35 ∧ x35 ≤ 19999 := by rw [e_x35]; exact hT.2 62 _
          refine ⟨(show 0 ≤ x35 ∧ x35 < 20000 from by (first | omega | (simp only [st_s] <;> omega) | assumption | omega | fail)), ?_⟩
          intro x37 r_x37 e_x37
          have b_x37 : 0 ≤ x37 ∧ x37 ≤ 19999 := by rw [e_x37]; exact hT.2 55 _
          refine ⟨(show 0 ≤ x37 ∧ x37 < 20000 from by (first | omega | (simp only [st_s] <;> omega) | assumption | omega | fail)), ?_⟩
          refine ⟨(⟨by (first | omega | (simp only [st_s] <;> omega) | assumption | omega | fail), by (first | omega | (simp only [st_s] <;> omega) | assumption | omega | fail)⟩ : rg (u3_146 + 1)), ?_⟩
          replace hT := cT_a (k := 59) (j := x37) hT (show (0 : Int) ≤ (u3_146 + 1) ∧ (u3_146 + 1) ≤ 30000 from by (first | omega | (simp only [st_s] <;> omega) | assumption | omega | fail))
          refine ⟨(⟨by (first | omega | (simp only [st_s] <;> omega) | assumption | omega | fail), by (first | omega | (simp only [st_s] <;> omega) | assumption | omega | fail)⟩ : rg (u4_146 + 1)), ?_⟩
          exact ih_146 _ _ _ (show (20002 - (u4_146 + 1) : Int) < ((m_146 : Nat) : Int) from by ((first | omega | (simp only [st_s] <;> omega) | assumption | omega | fail))) hT (show τ_146.1 15 = σ.1 15 from by first | exact W15 | omega) (show τ_146.1 41 = σ.1 41 from by first | exact W41 | omega) (show τ_146.1 44 = σ.1 44 from by first | exact W44 | omega) G27 G28 G36 G55 G62 (show 0 ≤ (u3_146 + 1) from by (first | omega | (simp only [st_s] <;> omega) | assumption | omega | fail)) (show (u3_146 + 1) ≤ 1560 + (u4_146 + 1) from by (first | omega | (simp only [st_s] <;> omega) | assumption | omega | fail)) (show 0 ≤ (u4_146 + 1) from by (first | omega | (simp only [st_s] <;> omega) | assumption | omega | fail)) (show (u4_146 + 1) ≤ 20001 from by (first | omega | (simp only [st_s] <;> omega) | assumption | omega | fail))
  have l_65 : ∀ (m_65 : Nat) (u2_65 : Int) (u3_65 : Int) (τ_65 : S0), 20002 - u3_65 < (m_65 : Int) → (c_T τ_65) → (τ_65.1 15 = σ.1 15) → (τ_65.1 41 = σ.1 41) → (τ_65.1 44 = σ.1 44) → (τ_65.2.1 27 = σ.2.1 27) → (τ_65.2.1 28 = σ.2.1 28) → (τ_65.2.1 36 = σ.2.1 36) → (τ_65.2.1 55 = σ.2.1 55) → (τ_65.2.1 62 = σ.2.1 62) → (0 ≤ u2_65) → (u2_65 ≤ 60) → (0 ≤ u3_65) → (u3_65 ≤ 20001) → ((τ_65.1 40) ≤ ca (τ_65.2.1 60) 1500) → P65 u2_65 u3_65 τ_65 := by
    intro m_65
    induction m_65 with
    | zero =>
      intro u2_65 u3_65 τ_65 hm hT W15 W41 W44 G27 G28 G36 G55 G62 i65_1 i65_2 i65_3 i65_4 i65_5
      have A27 : ∀ j, 0 ≤ τ_65.2.1 27 j ∧ τ_65.2.1 27 j ≤ 90000 := fun j => hT.2 27 j
      have A28 : ∀ j, 0 ≤ τ_65.2.1 28 j ∧ τ_65.2.1 28 j ≤ 60 := fun j => hT.2 28 j
      have A36 : ∀ j, 0 ≤ τ_65.2.1 36 j ∧ τ_65.2.1 36 j ≤ 20000 := fun j => hT.2 36 j
      have A55 : ∀ j, 0 ≤ τ_65.2.1 55 j ∧ τ_65.2.1 55 j ≤ 19999 := fun j => hT.2 55 j
      have A60 : ∀ j, 0 ≤ τ_65.2.1 60 j ∧ τ_65.2.1 60 j ≤ 2000 := fun j => hT.2 60 j
      have A62 : ∀ j, (-20000) ≤ τ_65.2.1 62 j ∧ τ_65.2.1 62 j ≤ 19999 := fun j => hT.2 62 j
      have v15 : 0 ≤ τ_65.1 15 ∧ τ_65.1 15 ≤ 20000 := hT.1 15
      have v40 : 0 ≤ τ_65.1 40 ∧ τ_65.1 40 ≤ 1500 := hT.1 40
      have v41 : 0 ≤ τ_65.1 41 ∧ τ_65.1 41 ≤ 20001 := hT.1 41
      have v44 : 0 ≤ τ_65.1 44 ∧ τ_65.1 44 ≤ 20000 := hT.1 44
      exfalso; (first | omega | (simp only [st_s] <;> omega) | assumption | omega | fail)
    | succ m_65 ih_65 =>
      intro u2_65 u3_65 τ_65 hm_65 hT W15 W41 W44 G27 G28 G36 G55 G62 i65_1 i65_2 i65_3 i65_4 i65_5
      have A27 : ∀ j, 0 ≤ τ_65.2.1 27 j ∧ τ_65.2.1 27 j ≤ 90000 := fun j => hT.2 27 j
      have A28 : ∀ j, 0 ≤ τ_65.2.1 28 j ∧ τ_65.2.1 28 j ≤ 60 := fun j => hT.2 28 j
      have A36 : ∀ j, 0 ≤ τ_65.2.1 36 j ∧ τ_65.2.1 36 j ≤ 20000 := fun j => hT.2 36 j
      have A55 : ∀ j, 0 ≤ τ_65.2.1 55 j ∧ τ_65.2.1 55 j ≤ 19999 := fun j => hT.2 55 j
      have A60 : ∀ j, 0 ≤ τ_65.2.1 60 j ∧ τ_65.2.1 60 j ≤ 2000 := fun j => hT.2 60 j
      have A62 : ∀ j, (-20000) ≤ τ_65.2.1 62 j ∧ τ_65.2.1 62 j ≤ 19999 := fun j => hT.2 62 j
      have v15 : 0 ≤ τ_65.1 15 ∧ τ_65.1 15 ≤ 20000 := hT.1 15
      have v40 : 0 ≤ τ_65.1 40 ∧ τ_65.1 40 ≤ 1500 := hT.1 40
      have v41 : 0 ≤ τ_65.1 41 ∧ τ_65.1 41 ≤ 20001 := hT.1 41
      have v44 : 0 ≤ τ_65.1 44 ∧ τ_65.1 44 ≤ 20000 := hT.1 44
      have TR : J_tr (τ_65.1 41) ((τ_65.1 15) - 1 - (τ_65.1 44)) (τ_65.1 44) (τ_65.2.1 62) (τ_65.2.1 55) (τ_65.2.1 36) := by rw [show (J_tr (τ_65.1 41) ((τ_65.1 15) - 1 - (τ_65.1 44)) (τ_65.1 44) (τ_65.2.1 62) (τ_65.2.1 55) (τ_65.2.1 36)) = (J_tr (σ.1 41) ((σ.1 15) - 1 - (σ.1 44)) (σ.1 44) (σ.2.1 62) (σ.2.1 55) (σ.2.1 36)) from by rw [W15, W41, W44, G36, G55, G62]]; exact TR_0
      have cb := ca_b (τ_65.2.1 60) (n := 1500) (by omega)
      refine h65 u2_65 u3_65 τ_65 ?_
      refine ⟨fun c13 => ?_, fun c13 => ?_⟩
      ·
        refine ⟨(⟨by (first | omega | (simp only [st_s] <;> omega) | assumption | omega | fail), by (first | omega | (simp only [st_s] <;> omega) | assumption | omega | fail)⟩ : rg (u2_65 + τ_65.1 40)), ?_⟩
        exact l_146 ((20002 - 0 : Int).toNat + 1) _ _ _ (show (20002 - 0 : Int) < (((20002 - 0 : Int).toNat + 1 : Nat) : Int) from by ((first | omega | (simp only [st_s] <;> omega) | assumption | omega | fail))) hT (show τ_65.1 15 = σ.1 15 from by first | exact W15 | omega) (show τ_65.1 41 = σ.1 41 from by first | exact W41 | omega) (show τ_65.1 44 = σ.1 44 from by first | exact W44 | omega) G27 G28 G36 G55 G62 (show 0 ≤ (u2_65 + τ_65.1 40) from by (first | omega | (simp only [st_s] <;> omega) | assumption | omega | fail)) (show (u2_65 + τ_65.1 40) ≤ 1560 + 0 from by (first | omega | (simp only [st_s] <;> omega) | assumption | omega | fail)) (show 0 ≤ 0 from by (first | omega | (simp only [st_s] <;> omega) | assumption | omega | fail)) (show 0 ≤ 20001 from by (first | omega | (simp only [st_s] <;> omega) | assumption | omega | fail))
      ·
        have tr := TR u3_65 (by omega) (by omega)
        refine ⟨_, K_X4_statementOf hT (show 0 ≤ u3_65 from by (first | omega | (simp only [st_s] <;> omega) | assumption | omega | fail)) (show u3_65 < 20001 from by (first | omega | (simp only [st_s] <;> omega) | assumption | omega | fail)) (show τ_65.2.1 62 u3_65 ≤ (τ_65.1 15) - 1 - (τ_65.1 44) from by (first | omega | (simp only [st_s] <;> omega) | assumption | omega | fail)), ?_⟩
        intro x16 r_x16 hq
        obtain ⟨q15_1, q15_2, q15_3⟩ := hq
        replace q15_1 : -1 ≤ x16 ∧ x16 ≤ 1499 := q15_1
        replace q15_2 : 0 ≤ τ_65.2.1 62 u3_65 → 0 ≤ x16 := q15_2
        replace q15_3 : τ_65.2.1 62 u3_65 < 0 → x16 = -1 := q15_3
        refine ⟨fun c18 => ?_, fun c18 => ?_⟩
        ·
          refine ⟨(⟨by (first | omega | (simp only [st_s] <;> omega) | assumption | omega | fail), by (first | omega | (simp only [st_s] <;> omega) | assumption | omega | fail)⟩ : rg (u3_65 + 1)), ?_⟩
          exact ih_65 _ _ _ (show (20002 - (u3_65 + 1) : Int) < ((m_65 : Nat) : Int) from by ((first | omega | (simp only [st_s] <;> omega) | assumption | omega | fail))) hT (show τ_65.1 15 = σ.1 15 from by first | exact W15 | omega) (show τ_65.1 41 = σ.1 41 from by first | exact W41 | omega) (show τ_65.1 44 = σ.1 44 from by first | exact W44 | omega) G27 G28 G36 G55 G62 (show 0 ≤ u2_65 from by (first | omega | (simp only [st_s] <;> omega) | assumption | omega | fail)) (show u2_65 ≤ 60 from by (first | omega | (simp only [st_s] <;> omega) | assumption | omega | fail)) (show 0 ≤ (u3_65 + 1) from by (first | omega | (simp only [st_s] <;> omega) | assumption | omega | fail)) (show (u3_65 + 1) ≤ 20001 from by (first | omega | (simp only [st_s] <;> omega) | assumption | omega | fail)) (show (τ_65.1 40) ≤ ca (τ_65.2.1 60) 1500 from by (first | omega | (simp only [st_s] <;> omega) | assumption | omega | fail))
        ·
          refine ⟨(show 0 ≤ x16 ∧ x16 < 1500 from by (first | omega | (simp only [st_s] <;> omega) | assumption | omega | fail)), ?_⟩
          intro x21 r_x21 e_x21
          have b_x21 : 0 ≤ x21 ∧ x21 ≤ 2000 := by rw [e_x21]; exact hT.2 60 _
          refine ⟨fun c22 => ?_, fun c22 => ?_⟩
          ·
            refine ⟨(⟨by (first | omega | (simp only [st_s] <;> omega) | assumption | omega | fail), by (first | omega | (simp only [st_s] <;> omega) | assumption | omega | fail)⟩ : rg (u3_65 + 1)), ?_⟩
            exact ih_65 _ _ _ (show (20002 - (u3_65 + 1) : Int) < ((m_65 : Nat) : Int) from by ((first | omega | (simp only [st_s] <;> omega) | assumption | omega | fail))) hT (show τ_65.1 15 = σ.1 15 from by first | exact W15 | omega) (show τ_65.1 41 = σ.1 41 from by first | exact W41 | omega) (show τ_65.1 44 = σ.1 44 from by first | exact W44 | omega) G27 G28 G36 G55 G62 (show 0 ≤ u2_65 from by (first | omega | (simp only [st_s] <;> omega) | assumption | omega | fail)) (show u2_65 ≤ 60 from by (first | omega | (simp only [st_s] <;> omega) | assumption | omega | fail)) (show 0 ≤ (u3_65 + 1) from by (first | omega | (simp only [st_s] <;> omega) | assumption | omega | fail)) (show (u3_65 + 1) ≤ 20001 from by (first | omega | (simp only [st_s] <;> omega) | assumption | omega | fail)) (show (τ_65.1 40) ≤ ca (τ_65.2.1 60) 1500 from by (first | omega | (simp only [st_s] <;> omega) | assumption | omega | fail))
          ·
            have ct := ca_t1 (τ_65.2.1 60) x16 1500 (u2_65 + (τ_65.1 40 + 1)) (by omega) (by omega) (by omega) (by omega)
            have cb2 := ca_b (st (τ_65.2.1 60) x16 (u2_65 + (τ_65.1 40 + 1))) (n := 1500) (by omega)
            refine ⟨(show 0 ≤ τ_65.1 40 ∧ τ_65.1 40 < 1500 from by (first | omega | (simp only [st_s] <;> omega) | assumption | omega | fail)), ?_⟩
            replace hT := cT_a (k := 61) (j := (τ_65.1 40)) hT (show (0 : Int) ≤ x16 ∧ x16 ≤ 1499 from by (first | omega | (simp only [st_s] <;> omega) | assumption | omega | fail))
            refine ⟨(⟨by (first | omega | (simp only [st_s] <;> omega) | assumption | omega | fail), by (first | omega | (simp only [st_s] <;> omega) | assumption | omega | fail)⟩ : rg (τ_65.1 40 + 1)), ?_⟩
            replace hT := cT_v (i := 40) hT (show 0 ≤ (τ_65.1 40 + 1) ∧ (τ_65.1 40 + 1) ≤ 1500 from by (first | omega | (simp only [st_s] <;> omega) | assumption | omega | fail))
            refine ⟨(⟨by (first | omega | (simp only [st_s] <;> omega) | assumption | omega | fail), by (first | omega | (simp only [st_s] <;> omega) | assumption | omega | fail)⟩ : rg (u2_65 + (τ_65.1 40 + 1))), ?_⟩
            replace hT := cT_a (k := 60) (j := x16) hT (show (0 : Int) ≤ (u2_65 + (τ_65.1 40 + 1)) ∧ (u2_65 + (τ_65.1 40 + 1)) ≤ 2000 from by (first | omega | (simp only [st_s] <;> omega) | assumption | omega | fail))
            refine ⟨(⟨by (first | omega | (simp only [st_s] <;> omega) | assumption | omega | fail), by (first | omega | (simp only [st_s] <;> omega) | assumption | omega | fail)⟩ : rg (u3_65 + 1)), ?_⟩
            exact ih_65 _ _ _ (show (20002 - (u3_65 + 1) : Int) < ((m_65 : Nat) : Int) from by ((first | omega | (simp only [st_s] <;> omega) | assumption | omega | fail))) hT (show τ_65.1 15 = σ.1 15 from by first | exact W15 | omega) (show τ_65.1 41 = σ.1 41 from by first | exact W41 | omega) (show τ_65.1 44 = σ.1 44 from by first | exact W44 | omega) G27 G28 G36 G55 G62 (show 0 ≤ u2_65 from by (first | omega | (simp only [st_s] <;> omega) | assumption | omega | fail)) (show u2_65 ≤ 60 from by (first | omega | (simp only [st_s] <;> omega) | assumption | omega | fail)) (show 0 ≤ (u3_65 + 1) from by (first | omega | (simp only [st_s] <;> omega) | assumption | omega | fail)) (show (u3_65 + 1) ≤ 20001 from by (first | omega | (simp only [st_s] <;> omega) | assumption | omega | fail)) (show ((τ_65.1 40 + 1)) ≤ ca ((st (τ_65.2.1 60) x16 (u2_65 + (τ_65.1 40 + 1)))) 1500 from by (first | omega | (simp only [st_s] <;> omega) | assumption | omega | fail))
  have l_20 : ∀ (m_20 : Nat) (u2_20 : Int) (u3_20 : Int) (τ_20 : S0), 61 - u3_20 < (m_20 : Int) → (c_T τ_20) → (τ_20.1 15 = σ.1 15) → (τ_20.1 41 = σ.1 41) → (τ_20.1 44 = σ.1 44) → (τ_20.2.1 27 = σ.2.1 27) → (τ_20.2.1 28 = σ.2.1 28) → (τ_20.2.1 36 = σ.2.1 36) → (τ_20.2.1 55 = σ.2.1 55) → (τ_20.2.1 62 = σ.2.1 62) → (0 ≤ u3_20) → (u3_20 ≤ u2_20) → (u2_20 = σ.2.1 28 n1) → (u2_20 ≤ 60) → P20 n1 u2_20 u3_20 τ_20 := by
    intro m_20
    induction m_20 with
    | zero =>
      intro u2_20 u3_20 τ_20 hm hT W15 W41 W44 G27 G28 G36 G55 G62 i20_1 i20_2 i20_3 i20_4
      have A27 : ∀ j, 0 ≤ τ_20.2.1 27 j ∧ τ_20.2.1 27 j ≤ 90000 := fun j => hT.2 27 j
      have A28 : ∀ j, 0 ≤ τ_20.2.1 28 j ∧ τ_20.2.1 28 j ≤ 60 := fun j => hT.2 28 j
      have A36 : ∀ j, 0 ≤ τ_20.2.1 36 j ∧ τ_20.2.1 36 j ≤ 20000 := fun j => hT.2 36 j
      have A55 : ∀ j, 0 ≤ τ_20.2.1 55 j ∧ τ_20.2.1 55 j ≤ 19999 := fun j => hT.2 55 j
      have A60 : ∀ j, 0 ≤ τ_20.2.1 60 j ∧ τ_20.2.1 60 j ≤ 2000 := fun j => hT.2 60 j
      have A62 : ∀ j, (-20000) ≤ τ_20.2.1 62 j ∧ τ_20.2.1 62 j ≤ 19999 := fun j => hT.2 62 j
      have v15 : 0 ≤ τ_20.1 15 ∧ τ_20.1 15 ≤ 20000 := hT.1 15
      have v40 : 0 ≤ τ_20.1 40 ∧ τ_20.1 40 ≤ 1500 := hT.1 40
      have v41 : 0 ≤ τ_20.1 41 ∧ τ_20.1 41 ≤ 20001 := hT.1 41
      have v44 : 0 ≤ τ_20.1 44 ∧ τ_20.1 44 ≤ 20000 := hT.1 44
      exfalso; (first | omega | (simp only [st_s] <;> omega) | assumption | omega | fail)
    | succ m_20 ih_20 =>
      intro u2_20 u3_20 τ_20 hm_20 hT W15 W41 W44 G27 G28 G36 G55 G62 i20_1 i20_2 i20_3 i20_4
      have A27 : ∀ j, 0 ≤ τ_20.2.1 27 j ∧ τ_20.2.1 27 j ≤ 90000 := fun j => hT.2 27 j
      have A28 : ∀ j, 0 ≤ τ_20.2.1 28 j ∧ τ_20.2.1 28 j ≤ 60 := fun j => hT.2 28 j
      have A36 : ∀ j, 0 ≤ τ_20.2.1 36 j ∧ τ_20.2.1 36 j ≤ 20000 := fun j => hT.2 36 j
      have A55 : ∀ j, 0 ≤ τ_20.2.1 55 j ∧ τ_20.2.1 55 j ≤ 19999 := fun j => hT.2 55 j
      have A60 : ∀ j, 0 ≤ τ_20.2.1 60 j ∧ τ_20.2.1 60 j ≤ 2000 := fun j => hT.2 60 j
      have A62 : ∀ j, (-20000) ≤ τ_20.2.1 62 j ∧ τ_20.2.1 62 j ≤ 19999 := fun j => hT.2 62 j
      have v15 : 0 ≤ τ_20.1 15 ∧ τ_20.1 15 ≤ 20000 := hT.1 15
      have v40 : 0 ≤ τ_20.1 40 ∧ τ_20.1 40 ≤ 1500 := hT.1 40
      have v41 : 0 ≤ τ_20.1 41 ∧ τ_20.1 41 ≤ 20001 := hT.1 41
      have v44 : 0 ≤ τ_20.1 44 ∧ τ_20.1 44 ≤ 20000 := hT.1 44
      have TR : J_tr (τ_20.1 41) ((τ_20.1 15) - 1 - (τ_20.1 44)) (τ_20.1 44) (τ_20.2.1 62) (τ_20.2.1 55) (τ_20.2.1 36) := by rw [show (J_tr (τ_20.1 41) ((τ_20.1 15) - 1 - (τ_20.1 44)) (τ_20.1 44) (τ_20.2.1 62) (τ_20.2.1 55) (τ_20.2.1 36)) = (J_tr (σ.1 41) ((σ.1 15) - 1 - (σ.1 44)) (σ.1 44) (σ.2.1 62) (σ.2.1 55) (σ.2.1 36)) from by rw [W15, W41, W44, G36, G55, G62]]; exact TR_0
      have a28 := A28 n1
      have a27 := A27 n1
      have cb0 := ca_b (τ_20.2.1 60) (n := 1500) (by omega)
      refine h20 n1 u2_20 u3_20 τ_20 ?_
      refine ⟨fun c6 => ?_, fun c6 => ?_⟩
      ·
        replace hT := cT_v (i := 40) hT (show (0 : Int) ≤ 0 ∧ 0 ≤ 1500 from by (first | omega | (simp only [st_s] <;> omega) | assumption | omega | fail))
        exact l_65 ((20002 - 0 : Int).toNat + 1) _ _ _ (show (20002 - 0 : Int) < (((20002 - 0 : Int).toNat + 1 : Nat) : Int) from by ((first | omega | (simp only [st_s] <;> omega) | assumption | omega | fail))) hT (show τ_20.1 15 = σ.1 15 from by first | exact W15 | omega) (show τ_20.1 41 = σ.1 41 from by first | exact W41 | omega) (show τ_20.1 44 = σ.1 44 from by first | exact W44 | omega) G27 G28 G36 G55 G62 (show 0 ≤ u2_20 from by (first | omega | (simp only [st_s] <;> omega) | assumption | omega | fail)) (show u2_20 ≤ 60 from by (first | omega | (simp only [st_s] <;> omega) | assumption | omega | fail)) (show 0 ≤ 0 from by (first | omega | (simp only [st_s] <;> omega) | assumption | omega | fail)) (show 0 ≤ 20001 from by (first | omega | (simp only [st_s] <;> omega) | assumption | omega | fail)) (show ((0 : Int)) ≤ ca (τ_20.2.1 60) 1500 from by (first | omega | (simp only [st_s] <;> omega) | assumption | omega | fail))
      ·
        refine ⟨(show 0 ≤ n1 ∧ n1 < 1500 from by (first | omega | (simp only [st_s] <;> omega) | assumption | omega | fail)), ?_⟩
        intro x8 r_x8 e_x8
        have b_x8 : 0 ≤ x8 ∧ x8 ≤ 90000 := by rw [e_x8]; exact hT.2 27 _
        rw [G27] at e_x8
        refine ⟨(show 0 ≤ (x8 + u3_20) ∧ (x8 + u3_20) < 90000 from by (first | omega | (simp only [st_s] <;> omega) | assumption | omega | fail)), ?_⟩
        intro x10 r_x10 e_x10
        have b_x10 : 0 ≤ x10 ∧ x10 ≤ 1499 := by rw [e_x10]; exact hT.2 29 _
        refine ⟨(show 0 ≤ x10 ∧ x10 < 1500 from by (first | omega | (simp only [st_s] <;> omega) | assumption | omega | fail)), ?_⟩
        refine ⟨(⟨by (first | omega | (simp only [st_s] <;> omega) | assumption | omega | fail), by (first | omega | (simp only [st_s] <;> omega) | assumption | omega | fail)⟩ : rg (u3_20 + 1)), ?_⟩
        replace hT := cT_a (k := 60) (j := x10) hT (show (0 : Int) ≤ (u3_20 + 1) ∧ (u3_20 + 1) ≤ 2000 from by (first | omega | (simp only [st_s] <;> omega) | assumption | omega | fail))
        exact ih_20 _ _ _ (show (61 - (u3_20 + 1) : Int) < ((m_20 : Nat) : Int) from by ((first | omega | (simp only [st_s] <;> omega) | assumption | omega | fail))) hT (show τ_20.1 15 = σ.1 15 from by first | exact W15 | omega) (show τ_20.1 41 = σ.1 41 from by first | exact W41 | omega) (show τ_20.1 44 = σ.1 44 from by first | exact W44 | omega) G27 G28 G36 G55 G62 (show 0 ≤ (u3_20 + 1) from by (first | omega | (simp only [st_s] <;> omega) | assumption | omega | fail)) (show (u3_20 + 1) ≤ u2_20 from by (first | omega | (simp only [st_s] <;> omega) | assumption | omega | fail)) (show u2_20 = σ.2.1 28 n1 from by (first | omega | (simp only [st_s] <;> omega) | assumption | omega | fail)) (show u2_20 ≤ 60 from by (first | omega | (simp only [st_s] <;> omega) | assumption | omega | fail))
  refine ⟨_, K_J7_fill_53178_q76 hT (show (0 : Int) = 0 from by (first | omega | (simp only [st_s] <;> omega) | assumption | omega | fail)), ?_⟩
  intro τ3 hn_τ3 hf_τ3 hq
  obtain ⟨hT, q1_1⟩ := hq
  replace q1_1 : ∀ e : Int, 0 ≤ e → e < 1500 → τ3.2.1 60 e = 0 := q1_1
  have w15_τ3 : τ3.1 15 = σ.1 15 := hf_τ3.1 15 (by decide)
  have w40_τ3 : τ3.1 40 = σ.1 40 := hf_τ3.1 40 (by decide)
  have w41_τ3 : τ3.1 41 = σ.1 41 := hf_τ3.1 41 (by decide)
  have w44_τ3 : τ3.1 44 = σ.1 44 := hf_τ3.1 44 (by decide)
  have g27_τ3 : τ3.2.1 27 = σ.2.1 27 := hf_τ3.2.1 27 (by decide)
  have g28_τ3 : τ3.2.1 28 = σ.2.1 28 := hf_τ3.2.1 28 (by decide)
  have g36_τ3 : τ3.2.1 36 = σ.2.1 36 := hf_τ3.2.1 36 (by decide)
  have g55_τ3 : τ3.2.1 55 = σ.2.1 55 := hf_τ3.2.1 55 (by decide)
  have g62_τ3 : τ3.2.1 62 = σ.2.1 62 := hf_τ3.2.1 62 (by decide)
  have W15 : τ3.1 15 = σ.1 15 := by first | exact w15_τ3.trans W15 | omega
  have W41 : τ3.1 41 = σ.1 41 := by first | exact w41_τ3.trans W41 | omega
  have W44 : τ3.1 44 = σ.1 44 := by first | exact w44_τ3.trans W44 | omega
  have G27 : τ3.2.1 27 = σ.2.1 27 := (g27_τ3).trans G27
  have G28 : τ3.2.1 28 = σ.2.1 28 := (g28_τ3).trans G28
  have G36 : τ3.2.1 36 = σ.2.1 36 := (g36_τ3).trans G36
  have G55 : τ3.2.1 55 = σ.2.1 55 := (g55_τ3).trans G55
  have G62 : τ3.2.1 62 = σ.2.1 62 := (g62_τ3).trans G62
  have TR : J_tr (τ3.1 41) ((τ3.1 15) - 1 - (τ3.1 44)) (τ3.1 44) (τ3.2.1 62) (τ3.2.1 55) (τ3.2.1 36) := by rw [show (J_tr (τ3.1 41) ((τ3.1 15) - 1 - (τ3.1 44)) (τ3.1 44) (τ3.2.1 62) (τ3.2.1 55) (τ3.2.1 36)) = (J_tr (σ.1 41) ((σ.1 15) - 1 - (σ.1 44)) (σ.1 44) (σ.2.1 62) (σ.2.1 55) (σ.2.1 36)) from by rw [w15_τ3, w41_τ3, w44_τ3, g36_τ3, g55_τ3, g62_τ3]]; exact TR
  have A27 : ∀ j, 0 ≤ τ3.2.1 27 j ∧ τ3.2.1 27 j ≤ 90000 := fun j => hT.2 27 j
  have A28 : ∀ j, 0 ≤ τ3.2.1 28 j ∧ τ3.2.1 28 j ≤ 60 := fun j => hT.2 28 j
  have A36 : ∀ j, 0 ≤ τ3.2.1 36 j ∧ τ3.2.1 36 j ≤ 20000 := fun j => hT.2 36 j
  have A55 : ∀ j, 0 ≤ τ3.2.1 55 j ∧ τ3.2.1 55 j ≤ 19999 := fun j => hT.2 55 j
  have A60 : ∀ j, 0 ≤ τ3.2.1 60 j ∧ τ3.2.1 60 j ≤ 2000 := fun j => hT.2 60 j
  have A62 : ∀ j, (-20000) ≤ τ3.2.1 62 j ∧ τ3.2.1 62 j ≤ 19999 := fun j => hT.2 62 j
  have v15 : 0 ≤ τ3.1 15 ∧ τ3.1 15 ≤ 20000 := hT.1 15
  have v40 : 0 ≤ τ3.1 40 ∧ τ3.1 40 ≤ 1500 := hT.1 40
  have v41 : 0 ≤ τ3.1 41 ∧ τ3.1 41 ≤ 20001 := hT.1 41
  have v44 : 0 ≤ τ3.1 44 ∧ τ3.1 44 ≤ 20000 := hT.1 44
  refine ⟨(show 0 ≤ n1 ∧ n1 < 1500 from by (first | omega | (simp only [st_s] <;> omega) | assumption | omega | fail)), ?_⟩
  intro x5 r_x5 e_x5
  have b_x5 : 0 ≤ x5 ∧ x5 ≤ 60 := by rw [e_x5]; exact hT.2 28 _
  have a28e := A28 n1
  rw [G28] at e_x5
  exact l_20 ((61 - 0 : Int).toNat + 1) _ _ _ (show (61 - 0 : Int) < (((61 - 0 : Int).toNat + 1 : Nat) : Int) from by ((first | omega | (simp only [st_s] <;> omega) | assumption | omega | fail))) hT (show τ3.1 15 = σ.1 15 from by first | exact W15 | omega) (show τ3.1 41 = σ.1 41 from by first | exact W41 | omega) (show τ3.1 44 = σ.1 44 from by first | exact W44 | omega) G27 G28 G36 G55 G62 (show 0 ≤ 0 from by (first | omega | (simp only [st_s] <;> omega) | assumption | omega | fail)) (show 0 ≤ x5 from by (first | omega | (simp only [st_s] <;> omega) | assumption | omega | fail)) (show x5 = σ.2.1 28 n1 from by (first | omega | (simp only [st_s] <;> omega) | assumption | omega | fail)) (show x5 ≤ 60 from by (first | omega | (simp only [st_s] <;> omega) | assumption | omega | fail))
set_option maxHeartbeats 1000000 in
theorem K_X4_pack {n1 : Int} {σ : S0} (hT : c_T σ) (p1 : 0 ≤ n1) (p2 : n1 < (σ.1 7)) (p3 : σ.2.1 13 n1 = 3) (p4 : J_all (σ.1 7) (σ.1 6) (σ.1 13) (σ.1 14) (σ.1 15) (σ.2.1 13) (σ.2.1 14) (σ.2.1 15) (σ.2.1 16) (σ.2.1 10) (σ.2.1 27) (σ.2.1 28) (σ.2.1 29) (σ.2.1 30) (σ.2.1 31) (σ.2.1 32) (σ.2.1 33) (σ.2.1 34) (σ.2.1 35) (σ.2.1 36) (σ.2.1 37)) : W_X4_pack n1 σ (fun (τ : S0) => (c_T τ) ∧ (J_tr (τ.1 41) ((τ.1 15) - 1 - (τ.1 44)) (τ.1 44) (τ.2.1 62) (τ.2.1 55) (τ.2.1 36)) ∧ ((τ.1 44) = σ.2.1 33 n1)) := by
  have A10 : ∀ j, (-1) ≤ σ.2.1 10 j ∧ σ.2.1 10 j ≤ 99 := fun j => hT.2 10 j
  have A13 : ∀ j, 0 ≤ σ.2.1 13 j ∧ σ.2.1 13 j ≤ 4 := fun j => hT.2 13 j
  have A14 : ∀ j, 0 ≤ σ.2.1 14 j ∧ σ.2.1 14 j ≤ 30000 := fun j => hT.2 14 j
  have A15 : ∀ j, 0 ≤ σ.2.1 15 j ∧ σ.2.1 15 j ≤ 999 := fun j => hT.2 15 j
  have A16 : ∀ j, (-1) ≤ σ.2.1 16 j ∧ σ.2.1 16 j ≤ 1499 := fun j => hT.2 16 j
  have A27 : ∀ j, 0 ≤ σ.2.1 27 j ∧ σ.2.1 27 j ≤ 90000 := fun j => hT.2 27 j
  have A28 : ∀ j, 0 ≤ σ.2.1 28 j ∧ σ.2.1 28 j ≤ 60 := fun j => hT.2 28 j
  have A29 : ∀ j, 0 ≤ σ.2.1 29 j ∧ σ.2.1 29 j ≤ 1499 := fun j => hT.2 29 j
  have A30 : ∀ j, 0 ≤ σ.2.1 30 j ∧ σ.2.1 30 j ≤ 20000 := fun j => hT.2 30 j
  have A31 : ∀ j, 0 ≤ σ.2.1 31 j ∧ σ.2.1 31 j ≤ 20000 := fun j => hT.2 31 j
  have A32 : ∀ j, 0 ≤ σ.2.1 32 j ∧ σ.2.1 32 j ≤ 999999 := fun j => hT.2 32 j
  have A33 : ∀ j, 0 ≤ σ.2.1 33 j ∧ σ.2.1 33 j ≤ 20000 := fun j => hT.2 33 j
  have A34 : ∀ j, 0 ≤ σ.2.1 34 j ∧ σ.2.1 34 j ≤ 20000 := fun j => hT.2 34 j
  have A35 : ∀ j, 0 ≤ σ.2.1 35 j ∧ σ.2.1 35 j ≤ 1499 := fun j => hT.2 35 j
  have A36 : ∀ j, 0 ≤ σ.2.1 36 j ∧ σ.2.1 36 j ≤ 20000 := fun j => hT.2 36 j
  have A37 : ∀ j, 0 ≤ σ.2.1 37 j ∧ σ.2.1 37 j ≤ 19999 := fun j => hT.2 37 j
  have A55 : ∀ j, 0 ≤ σ.2.1 55 j ∧ σ.2.1 55 j ≤ 19999 := fun j => hT.2 55 j
  have A58 : ∀ j, (-2147483648) ≤ σ.2.1 58 j ∧ σ.2.1 58 j ≤ 2147483647 := fun j => hT.2 58 j
  have A62 : ∀ j, (-20000) ≤ σ.2.1 62 j ∧ σ.2.1 62 j ≤ 19999 := fun j => hT.2 62 j
  have v6 : 0 ≤ σ.1 6 ∧ σ.1 6 ≤ 30000 := hT.1 6
  have v7 : 0 ≤ σ.1 7 ∧ σ.1 7 ≤ 1500 := hT.1 7
  have v13 : 0 ≤ σ.1 13 ∧ σ.1 13 ≤ 90000 := hT.1 13
  have v14 : 0 ≤ σ.1 14 ∧ σ.1 14 ≤ 20000 := hT.1 14
  have v15 : 0 ≤ σ.1 15 ∧ σ.1 15 ≤ 20000 := hT.1 15
  have v41 : 0 ≤ σ.1 41 ∧ σ.1 41 ≤ 20001 := hT.1 41
  have v44 : 0 ≤ σ.1 44 ∧ σ.1 44 ≤ 20000 := hT.1 44
  have W6 : σ.1 6 = σ.1 6 := rfl
  have W7 : σ.1 7 = σ.1 7 := rfl
  have W13 : σ.1 13 = σ.1 13 := rfl
  have W14 : σ.1 14 = σ.1 14 := rfl
  have W15 : σ.1 15 = σ.1 15 := rfl
  have G10 : σ.2.1 10 = σ.2.1 10 := rfl
  have G13 : σ.2.1 13 = σ.2.1 13 := rfl
  have G14 : σ.2.1 14 = σ.2.1 14 := rfl
  have G15 : σ.2.1 15 = σ.2.1 15 := rfl
  have G16 : σ.2.1 16 = σ.2.1 16 := rfl
  have G27 : σ.2.1 27 = σ.2.1 27 := rfl
  have G28 : σ.2.1 28 = σ.2.1 28 := rfl
  have G29 : σ.2.1 29 = σ.2.1 29 := rfl
  have G30 : σ.2.1 30 = σ.2.1 30 := rfl
  have G31 : σ.2.1 31 = σ.2.1 31 := rfl
  have G32 : σ.2.1 32 = σ.2.1 32 := rfl
  have G33 : σ.2.1 33 = σ.2.1 33 := rfl
  have G34 : σ.2.1 34 = σ.2.1 34 := rfl
  have G35 : σ.2.1 35 = σ.2.1 35 := rfl
  have G36 : σ.2.1 36 = σ.2.1 36 := rfl
  have G37 : σ.2.1 37 = σ.2.1 37 := rfl
  have jr := (p4.1 n1 p1 p2).2.2 p3
  have jf := (p4.1 n1 p1 p2).2.1 (by omega)
  have jb := jf.1
  have pk := J_pk_r jr (A33 n1).1 (by omega)
  have jr1 := jr.1
  have CJ : J_all (σ.1 7) (σ.1 6) (σ.1 13) (σ.1 14) (σ.1 15) (σ.2.1 13) (σ.2.1 14) (σ.2.1 15) (σ.2.1 16) (σ.2.1 10) (σ.2.1 27) (σ.2.1 28) (σ.2.1 29) (σ.2.1 30) (σ.2.1 31) (σ.2.1 32) (σ.2.1 33) (σ.2.1 34) (σ.2.1 35) (σ.2.1 36) (σ.2.1 37) := p4
  have CJ_0 := CJ
  unfold W_X4_pack
  refine ⟨(show 0 ≤ n1 ∧ n1 < 1500 from by (first | omega | (simp only [st_s] <;> omega) | assumption | omega | fail)), ?_⟩
  intro x2 r_x2 e_x2
  have b_x2 : 0 ≤ x2 ∧ x2 ≤ 20000 := by rw [e_x2]; exact hT.2 33 _
  have e2 := e_x2
  replace hT := cT_v (i := 44) hT (show 0 ≤ x2 ∧ x2 ≤ 20000 from by (first | omega | (simp only [st_s] <;> omega) | assumption | omega | fail))
  intro x3 r_x3 e_x3
  have b_x3 : 0 ≤ x3 ∧ x3 ≤ 20000 := by rw [e_x3]; exact hT.2 34 _
  have e3 := e_x3
  refine ⟨_, K_X4_findSame hT (show J_pk (x2) x3 (σ.2.1 13) (σ.2.1 28) (σ.2.1 35) (σ.2.1 36) (σ.2.1 37) from by (rw [e_x2, e_x3]; exact pk)), ?_⟩
  intro τ6 hn_τ6 hf_τ6 hq
  obtain ⟨hT, q4_1⟩ := hq
  replace q4_1 : J_sa x3 (τ6.2.1 55) := q4_1
  have w6_τ6 : τ6.1 6 = σ.1 6 := hf_τ6.1 6 (by decide)
  have w7_τ6 : τ6.1 7 = σ.1 7 := hf_τ6.1 7 (by decide)
  have w13_τ6 : τ6.1 13 = σ.1 13 := hf_τ6.1 13 (by decide)
  have w14_τ6 : τ6.1 14 = σ.1 14 := hf_τ6.1 14 (by decide)
  have w15_τ6 : τ6.1 15 = σ.1 15 := hf_τ6.1 15 (by decide)
  have w41_τ6 : τ6.1 41 = σ.1 41 := hf_τ6.1 41 (by decide)
  have w44_τ6 : τ6.1 44 = x2 := hf_τ6.1 44 (by decide)
  have g10_τ6 : τ6.2.1 10 = σ.2.1 10 := hf_τ6.2.1 10 (by decide)
  have g13_τ6 : τ6.2.1 13 = σ.2.1 13 := hf_τ6.2.1 13 (by decide)
  have g14_τ6 : τ6.2.1 14 = σ.2.1 14 := hf_τ6.2.1 14 (by decide)
  have g15_τ6 : τ6.2.1 15 = σ.2.1 15 := hf_τ6.2.1 15 (by decide)
  have g16_τ6 : τ6.2.1 16 = σ.2.1 16 := hf_τ6.2.1 16 (by decide)
  have g27_τ6 : τ6.2.1 27 = σ.2.1 27 := hf_τ6.2.1 27 (by decide)
  have g28_τ6 : τ6.2.1 28 = σ.2.1 28 := hf_τ6.2.1 28 (by decide)
  have g29_τ6 : τ6.2.1 29 = σ.2.1 29 := hf_τ6.2.1 29 (by decide)
  have g30_τ6 : τ6.2.1 30 = σ.2.1 30 := hf_τ6.2.1 30 (by decide)
  have g31_τ6 : τ6.2.1 31 = σ.2.1 31 := hf_τ6.2.1 31 (by decide)
  have g32_τ6 : τ6.2.1 32 = σ.2.1 32 := hf_τ6.2.1 32 (by decide)
  have g33_τ6 : τ6.2.1 33 = σ.2.1 33 := hf_τ6.2.1 33 (by decide)
  have g34_τ6 : τ6.2.1 34 = σ.2.1 34 := hf_τ6.2.1 34 (by decide)
  have g35_τ6 : τ6.2.1 35 = σ.2.1 35 := hf_τ6.2.1 35 (by decide)
  have g36_τ6 : τ6.2.1 36 = σ.2.1 36 := hf_τ6.2.1 36 (by decide)
  have g37_τ6 : τ6.2.1 37 = σ.2.1 37 := hf_τ6.2.1 37 (by decide)
  have g58_τ6 : τ6.2.1 58 = σ.2.1 58 := hf_τ6.2.1 58 (by decide)
  have g62_τ6 : τ6.2.1 62 = σ.2.1 62 := hf_τ6.2.1 62 (by decide)
  have W6 : τ6.1 6 = σ.1 6 := by first | exact w6_τ6.trans W6 | omega
  have W7 : τ6.1 7 = σ.1 7 := by first | exact w7_τ6.trans W7 | omega
  have W13 : τ6.1 13 = σ.1 13 := by first | exact w13_τ6.trans W13 | omega
  have W14 : τ6.1 14 = σ.1 14 := by first | exact w14_τ6.trans W14 | omega
  have W15 : τ6.1 15 = σ.1 15 := by first | exact w15_τ6.trans W15 | omega
  have G10 : τ6.2.1 10 = σ.2.1 10 := (g10_τ6).trans G10
  have G13 : τ6.2.1 13 = σ.2.1 13 := (g13_τ6).trans G13
  have G14 : τ6.2.1 14 = σ.2.1 14 := (g14_τ6).trans G14
  have G15 : τ6.2.1 15 = σ.2.1 15 := (g15_τ6).trans G15
  have G16 : τ6.2.1 16 = σ.2.1 16 := (g16_τ6).trans G16
  have G27 : τ6.2.1 27 = σ.2.1 27 := (g27_τ6).trans G27
  have G28 : τ6.2.1 28 = σ.2.1 28 := (g28_τ6).trans G28
  have G29 : τ6.2.1 29 = σ.2.1 29 := (g29_τ6).trans G29
  have G30 : τ6.2.1 30 = σ.2.1 30 := (g30_τ6).trans G30
  have G31 : τ6.2.1 31 = σ.2.1 31 := (g31_τ6).trans G31
  have G32 : τ6.2.1 32 = σ.2.1 32 := (g32_τ6).trans G32
  have G33 : τ6.2.1 33 = σ.2.1 33 := (g33_τ6).trans G33
  have G34 : τ6.2.1 34 = σ.2.1 34 := (g34_τ6).trans G34
  have G35 : τ6.2.1 35 = σ.2.1 35 := (g35_τ6).trans G35
  have G36 : τ6.2.1 36 = σ.2.1 36 := (g36_τ6).trans G36
  have G37 : τ6.2.1 37 = σ.2.1 37 := (g37_τ6).trans G37
  have CJ : J_all (τ6.1 7) (τ6.1 6) (τ6.1 13) (τ6.1 14) (τ6.1 15) (τ6.2.1 13) (τ6.2.1 14) (τ6.2.1 15) (τ6.2.1 16) (τ6.2.1 10) (τ6.2.1 27) (τ6.2.1 28) (τ6.2.1 29) (τ6.2.1 30) (τ6.2.1 31) (τ6.2.1 32) (τ6.2.1 33) (τ6.2.1 34) (τ6.2.1 35) (τ6.2.1 36) (τ6.2.1 37) := by rw [show (J_all (τ6.1 7) (τ6.1 6) (τ6.1 13) (τ6.1 14) (τ6.1 15) (τ6.2.1 13) (τ6.2.1 14) (τ6.2.1 15) (τ6.2.1 16) (τ6.2.1 10) (τ6.2.1 27) (τ6.2.1 28) (τ6.2.1 29) (τ6.2.1 30) (τ6.2.1 31) (τ6.2.1 32) (τ6.2.1 33) (τ6.2.1 34) (τ6.2.1 35) (τ6.2.1 36) (τ6.2.1 37)) = (J_all (σ.1 7) (σ.1 6) (σ.1 13) (σ.1 14) (σ.1 15) (σ.2.1 13) (σ.2.1 14) (σ.2.1 15) (σ.2.1 16) (σ.2.1 10) (σ.2.1 27) (σ.2.1 28) (σ.2.1 29) (σ.2.1 30) (σ.2.1 31) (σ.2.1 32) (σ.2.1 33) (σ.2.1 34) (σ.2.1 35) (σ.2.1 36) (σ.2.1 37)) from by rw [w6_τ6, w7_τ6, w13_τ6, w14_τ6, w15_τ6, g10_τ6, g13_τ6, g14_τ6, g15_τ6, g16_τ6, g27_τ6, g28_τ6, g29_τ6, g30_τ6, g31_τ6, g32_τ6, g33_τ6, g34_τ6, g35_τ6, g36_τ6, g37_τ6]]; exact CJ
  have A10 : ∀ j, (-1) ≤ τ6.2.1 10 j ∧ τ6.2.1 10 j ≤ 99 := fun j => hT.2 10 j
  have A13 : ∀ j, 0 ≤ τ6.2.1 13 j ∧ τ6.2.1 13 j ≤ 4 := fun j => hT.2 13 j
  have A14 : ∀ j, 0 ≤ τ6.2.1 14 j ∧ τ6.2.1 14 j ≤ 30000 := fun j => hT.2 14 j
  have A15 : ∀ j, 0 ≤ τ6.2.1 15 j ∧ τ6.2.1 15 j ≤ 999 := fun j => hT.2 15 j
  have A16 : ∀ j, (-1) ≤ τ6.2.1 16 j ∧ τ6.2.1 16 j ≤ 1499 := fun j => hT.2 16 j
  have A27 : ∀ j, 0 ≤ τ6.2.1 27 j ∧ τ6.2.1 27 j ≤ 90000 := fun j => hT.2 27 j
  have A28 : ∀ j, 0 ≤ τ6.2.1 28 j ∧ τ6.2.1 28 j ≤ 60 := fun j => hT.2 28 j
  have A29 : ∀ j, 0 ≤ τ6.2.1 29 j ∧ τ6.2.1 29 j ≤ 1499 := fun j => hT.2 29 j
  have A30 : ∀ j, 0 ≤ τ6.2.1 30 j ∧ τ6.2.1 30 j ≤ 20000 := fun j => hT.2 30 j
  have A31 : ∀ j, 0 ≤ τ6.2.1 31 j ∧ τ6.2.1 31 j ≤ 20000 := fun j => hT.2 31 j
  have A32 : ∀ j, 0 ≤ τ6.2.1 32 j ∧ τ6.2.1 32 j ≤ 999999 := fun j => hT.2 32 j
  have A33 : ∀ j, 0 ≤ τ6.2.1 33 j ∧ τ6.2.1 33 j ≤ 20000 := fun j => hT.2 33 j
  have A34 : ∀ j, 0 ≤ τ6.2.1 34 j ∧ τ6.2.1 34 j ≤ 20000 := fun j => hT.2 34 j
  have A35 : ∀ j, 0 ≤ τ6.2.1 35 j ∧ τ6.2.1 35 j ≤ 1499 := fun j => hT.2 35 j
  have A36 : ∀ j, 0 ≤ τ6.2.1 36 j ∧ τ6.2.1 36 j ≤ 20000 := fun j => hT.2 36 j
  have A37 : ∀ j, 0 ≤ τ6.2.1 37 j ∧ τ6.2.1 37 j ≤ 19999 := fun j => hT.2 37 j
  have A55 : ∀ j, 0 ≤ τ6.2.1 55 j ∧ τ6.2.1 55 j ≤ 19999 := fun j => hT.2 55 j
  have A58 : ∀ j, (-2147483648) ≤ τ6.2.1 58 j ∧ τ6.2.1 58 j ≤ 2147483647 := fun j => hT.2 58 j
  have A62 : ∀ j, (-20000) ≤ τ6.2.1 62 j ∧ τ6.2.1 62 j ≤ 19999 := fun j => hT.2 62 j
  have v6 : 0 ≤ τ6.1 6 ∧ τ6.1 6 ≤ 30000 := hT.1 6
  have v7 : 0 ≤ τ6.1 7 ∧ τ6.1 7 ≤ 1500 := hT.1 7
  have v13 : 0 ≤ τ6.1 13 ∧ τ6.1 13 ≤ 90000 := hT.1 13
  have v14 : 0 ≤ τ6.1 14 ∧ τ6.1 14 ≤ 20000 := hT.1 14
  have v15 : 0 ≤ τ6.1 15 ∧ τ6.1 15 ≤ 20000 := hT.1 15
  have v41 : 0 ≤ τ6.1 41 ∧ τ6.1 41 ≤ 20001 := hT.1 41
  have v44 : 0 ≤ τ6.1 44 ∧ τ6.1 44 ≤ 20000 := hT.1 44
  intro x7 r_x7 e_x7
  have b_x7 : 0 ≤ x7 ∧ x7 ≤ 20000 := by rw [e_x7]; exact hT.2 34 _
  rw [G34] at e_x7
  refine ⟨_, K_J7_fill_fda19_q74 hT (show 0 ≤ (0 : Int) from by (first | omega | (simp only [st_s] <;> omega) | assumption | omega | fail)) (show (0 : Int) ≤ x7 from by (first | omega | (simp only [st_s] <;> omega) | assumption | omega | fail)) (show x7 ≤ 20000 from by (first | omega | (simp only [st_s] <;> omega) | assumption | omega | fail)) (show (0 : Int) = 0 from by (first | omega | (simp only [st_s] <;> omega) | assumption | omega | fail)), ?_⟩
  intro τ10 hn_τ10 hf_τ10 hq
  obtain ⟨hT, q8_1⟩ := hq
  replace q8_1 : ∀ e : Int, (0 : Int) ≤ e → e < x7 → τ10.2.1 58 e = (0 : Int) := q8_1
  have w6_τ10 : τ10.1 6 = τ6.1 6 := hf_τ10.1 6 (by decide)
  have w7_τ10 : τ10.1 7 = τ6.1 7 := hf_τ10.1 7 (by decide)
  have w13_τ10 : τ10.1 13 = τ6.1 13 := hf_τ10.1 13 (by decide)
  have w14_τ10 : τ10.1 14 = τ6.1 14 := hf_τ10.1 14 (by decide)
  have w15_τ10 : τ10.1 15 = τ6.1 15 := hf_τ10.1 15 (by decide)
  have w41_τ10 : τ10.1 41 = τ6.1 41 := hf_τ10.1 41 (by decide)
  have w44_τ10 : τ10.1 44 = τ6.1 44 := hf_τ10.1 44 (by decide)
  have g10_τ10 : τ10.2.1 10 = τ6.2.1 10 := hf_τ10.2.1 10 (by decide)
  have g13_τ10 : τ10.2.1 13 = τ6.2.1 13 := hf_τ10.2.1 13 (by decide)
  have g14_τ10 : τ10.2.1 14 = τ6.2.1 14 := hf_τ10.2.1 14 (by decide)
  have g15_τ10 : τ10.2.1 15 = τ6.2.1 15 := hf_τ10.2.1 15 (by decide)
  have g16_τ10 : τ10.2.1 16 = τ6.2.1 16 := hf_τ10.2.1 16 (by decide)
  have g27_τ10 : τ10.2.1 27 = τ6.2.1 27 := hf_τ10.2.1 27 (by decide)
  have g28_τ10 : τ10.2.1 28 = τ6.2.1 28 := hf_τ10.2.1 28 (by decide)
  have g29_τ10 : τ10.2.1 29 = τ6.2.1 29 := hf_τ10.2.1 29 (by decide)
  have g30_τ10 : τ10.2.1 30 = τ6.2.1 30 := hf_τ10.2.1 30 (by decide)
  have g31_τ10 : τ10.2.1 31 = τ6.2.1 31 := hf_τ10.2.1 31 (by decide)
  have g32_τ10 : τ10.2.1 32 = τ6.2.1 32 := hf_τ10.2.1 32 (by decide)
  have g33_τ10 : τ10.2.1 33 = τ6.2.1 33 := hf_τ10.2.1 33 (by decide)
  have g34_τ10 : τ10.2.1 34 = τ6.2.1 34 := hf_τ10.2.1 34 (by decide)
  have g35_τ10 : τ10.2.1 35 = τ6.2.1 35 := hf_τ10.2.1 35 (by decide)
  have g36_τ10 : τ10.2.1 36 = τ6.2.1 36 := hf_τ10.2.1 36 (by decide)
  have g37_τ10 : τ10.2.1 37 = τ6.2.1 37 := hf_τ10.2.1 37 (by decide)
  have g55_τ10 : τ10.2.1 55 = τ6.2.1 55 := hf_τ10.2.1 55 (by decide)
  have g62_τ10 : τ10.2.1 62 = τ6.2.1 62 := hf_τ10.2.1 62 (by decide)
  have W6 : τ10.1 6 = σ.1 6 := by first | exact w6_τ10.trans W6 | omega
  have W7 : τ10.1 7 = σ.1 7 := by first | exact w7_τ10.trans W7 | omega
  have W13 : τ10.1 13 = σ.1 13 := by first | exact w13_τ10.trans W13 | omega
  have W14 : τ10.1 14 = σ.1 14 := by first | exact w14_τ10.trans W14 | omega
  have W15 : τ10.1 15 = σ.1 15 := by first | exact w15_τ10.trans W15 | omega
  have G10 : τ10.2.1 10 = σ.2.1 10 := (g10_τ10).trans G10
  have G13 : τ10.2.1 13 = σ.2.1 13 := (g13_τ10).trans G13
  have G14 : τ10.2.1 14 = σ.2.1 14 := (g14_τ10).trans G14
  have G15 : τ10.2.1 15 = σ.2.1 15 := (g15_τ10).trans G15
  have G16 : τ10.2.1 16 = σ.2.1 16 := (g16_τ10).trans G16
  have G27 : τ10.2.1 27 = σ.2.1 27 := (g27_τ10).trans G27
  have G28 : τ10.2.1 28 = σ.2.1 28 := (g28_τ10).trans G28
  have G29 : τ10.2.1 29 = σ.2.1 29 := (g29_τ10).trans G29
  have G30 : τ10.2.1 30 = σ.2.1 30 := (g30_τ10).trans G30
  have G31 : τ10.2.1 31 = σ.2.1 31 := (g31_τ10).trans G31
  have G32 : τ10.2.1 32 = σ.2.1 32 := (g32_τ10).trans G32
  have G33 : τ10.2.1 33 = σ.2.1 33 := (g33_τ10).trans G33
  have G34 : τ10.2.1 34 = σ.2.1 34 := (g34_τ10).trans G34
  have G35 : τ10.2.1 35 = σ.2.1 35 := (g35_τ10).trans G35
  have G36 : τ10.2.1 36 = σ.2.1 36 := (g36_τ10).trans G36
  have G37 : τ10.2.1 37 = σ.2.1 37 := (g37_τ10).trans G37
  have CJ : J_all (τ10.1 7) (τ10.1 6) (τ10.1 13) (τ10.1 14) (τ10.1 15) (τ10.2.1 13) (τ10.2.1 14) (τ10.2.1 15) (τ10.2.1 16) (τ10.2.1 10) (τ10.2.1 27) (τ10.2.1 28) (τ10.2.1 29) (τ10.2.1 30) (τ10.2.1 31) (τ10.2.1 32) (τ10.2.1 33) (τ10.2.1 34) (τ10.2.1 35) (τ10.2.1 36) (τ10.2.1 37) := by rw [show (J_all (τ10.1 7) (τ10.1 6) (τ10.1 13) (τ10.1 14) (τ10.1 15) (τ10.2.1 13) (τ10.2.1 14) (τ10.2.1 15) (τ10.2.1 16) (τ10.2.1 10) (τ10.2.1 27) (τ10.2.1 28) (τ10.2.1 29) (τ10.2.1 30) (τ10.2.1 31) (τ10.2.1 32) (τ10.2.1 33) (τ10.2.1 34) (τ10.2.1 35) (τ10.2.1 36) (τ10.2.1 37)) = (J_all (τ6.1 7) (τ6.1 6) (τ6.1 13) (τ6.1 14) (τ6.1 15) (τ6.2.1 13) (τ6.2.1 14) (τ6.2.1 15) (τ6.2.1 16) (τ6.2.1 10) (τ6.2.1 27) (τ6.2.1 28) (τ6.2.1 29) (τ6.2.1 30) (τ6.2.1 31) (τ6.2.1 32) (τ6.2.1 33) (τ6.2.1 34) (τ6.2.1 35) (τ6.2.1 36) (τ6.2.1 37)) from by rw [w6_τ10, w7_τ10, w13_τ10, w14_τ10, w15_τ10, g10_τ10, g13_τ10, g14_τ10, g15_τ10, g16_τ10, g27_τ10, g28_τ10, g29_τ10, g30_τ10, g31_τ10, g32_τ10, g33_τ10, g34_τ10, g35_τ10, g36_τ10, g37_τ10]]; exact CJ
  have A10 : ∀ j, (-1) ≤ τ10.2.1 10 j ∧ τ10.2.1 10 j ≤ 99 := fun j => hT.2 10 j
  have A13 : ∀ j, 0 ≤ τ10.2.1 13 j ∧ τ10.2.1 13 j ≤ 4 := fun j => hT.2 13 j
  have A14 : ∀ j, 0 ≤ τ10.2.1 14 j ∧ τ10.2.1 14 j ≤ 30000 := fun j => hT.2 14 j
  have A15 : ∀ j, 0 ≤ τ10.2.1 15 j ∧ τ10.2.1 15 j ≤ 999 := fun j => hT.2 15 j
  have A16 : ∀ j, (-1) ≤ τ10.2.1 16 j ∧ τ10.2.1 16 j ≤ 1499 := fun j => hT.2 16 j
  have A27 : ∀ j, 0 ≤ τ10.2.1 27 j ∧ τ10.2.1 27 j ≤ 90000 := fun j => hT.2 27 j
  have A28 : ∀ j, 0 ≤ τ10.2.1 28 j ∧ τ10.2.1 28 j ≤ 60 := fun j => hT.2 28 j
  have A29 : ∀ j, 0 ≤ τ10.2.1 29 j ∧ τ10.2.1 29 j ≤ 1499 := fun j => hT.2 29 j
  have A30 : ∀ j, 0 ≤ τ10.2.1 30 j ∧ τ10.2.1 30 j ≤ 20000 := fun j => hT.2 30 j
  have A31 : ∀ j, 0 ≤ τ10.2.1 31 j ∧ τ10.2.1 31 j ≤ 20000 := fun j => hT.2 31 j
  have A32 : ∀ j, 0 ≤ τ10.2.1 32 j ∧ τ10.2.1 32 j ≤ 999999 := fun j => hT.2 32 j
  have A33 : ∀ j, 0 ≤ τ10.2.1 33 j ∧ τ10.2.1 33 j ≤ 20000 := fun j => hT.2 33 j
  have A34 : ∀ j, 0 ≤ τ10.2.1 34 j ∧ τ10.2.1 34 j ≤ 20000 := fun j => hT.2 34 j
  have A35 : ∀ j, 0 ≤ τ10.2.1 35 j ∧ τ10.2.1 35 j ≤ 1499 := fun j => hT.2 35 j
  have A36 : ∀ j, 0 ≤ τ10.2.1 36 j ∧ τ10.2.1 36 j ≤ 20000 := fun j => hT.2 36 j
  have A37 : ∀ j, 0 ≤ τ10.2.1 37 j ∧ τ10.2.1 37 j ≤ 19999 := fun j => hT.2 37 j
  have A55 : ∀ j, 0 ≤ τ10.2.1 55 j ∧ τ10.2.1 55 j ≤ 19999 := fun j => hT.2 55 j
  have A58 : ∀ j, (-2147483648) ≤ τ10.2.1 58 j ∧ τ10.2.1 58 j ≤ 2147483647 := fun j => hT.2 58 j
  have A62 : ∀ j, (-20000) ≤ τ10.2.1 62 j ∧ τ10.2.1 62 j ≤ 19999 := fun j => hT.2 62 j
  have v6 : 0 ≤ τ10.1 6 ∧ τ10.1 6 ≤ 30000 := hT.1 6
  have v7 : 0 ≤ τ10.1 7 ∧ τ10.1 7 ≤ 1500 := hT.1 7
  have v13 : 0 ≤ τ10.1 13 ∧ τ10.1 13 ≤ 90000 := hT.1 13
  have v14 : 0 ≤ τ10.1 14 ∧ τ10.1 14 ≤ 20000 := hT.1 14
  have v15 : 0 ≤ τ10.1 15 ∧ τ10.1 15 ≤ 20000 := hT.1 15
  have v41 : 0 ≤ τ10.1 41 ∧ τ10.1 41 ≤ 20001 := hT.1 41
  have v44 : 0 ≤ τ10.1 44 ∧ τ10.1 44 ≤ 20000 := hT.1 44
  intro x11 r_x11 e_x11
  have b_x11 : 0 ≤ x11 ∧ x11 ≤ 20000 := by rw [e_x11]; exact hT.2 34 _
  rw [G34] at e_x11
  refine ⟨(⟨by (first | omega | (simp only [st_s] <;> omega) | assumption | omega | fail), by (first | omega | (simp only [st_s] <;> omega) | assumption | omega | fail)⟩ : rg (x11 - 1)), ?_⟩
  have sa := q4_1
  have pk2 := pk
  refine ⟨_, K_X4_walk hT (show 0 ≤ (x11 - 1) from by (first | omega | (simp only [st_s] <;> omega) | assumption | omega | fail)) (show J_pk (τ10.1 44) ((x11 - 1) + 1) (τ10.2.1 13) (τ10.2.1 28) (τ10.2.1 35) (τ10.2.1 36) (τ10.2.1 37) from by (rw [show τ10.1 44 = σ.2.1 33 n1 from by omega, G13, G28, G35, G36, G37, show x11 - 1 + 1 = σ.2.1 34 n1 from by omega]; exact pk)) (show 0 ≤ (1 : Int) ∧ (1 : Int) ≤ 1 from by (first | omega | (simp only [st_s] <;> omega) | assumption | omega | fail)) (show ¬ (1 : Int) = 0 → J_sa ((x11 - 1) + 1) (τ10.2.1 55) from by (intro _; rw [show x11 - 1 + 1 = x3 from by omega, g55_τ10]; exact sa)) (show ¬ (1 : Int) = 0 → ∀ r : Int, 0 ≤ r → r ≤ (x11 - 1) → τ10.2.1 58 r = 0 from by (intro _ r a b; exact q8_1 r a (by omega))) (show (τ10.1 44) + (x11 - 1) < (τ10.1 15) from by (first | omega | (simp only [st_s] <;> omega) | assumption | omega | fail)), ?_⟩
  intro τ15 hn_τ15 hf_τ15 hq
  obtain ⟨hT, q13_1, q13_2⟩ := hq
  replace q13_1 : J_tr (τ15.1 41) ((τ15.1 15) - 1 - (τ15.1 44)) (τ15.1 44) (τ15.2.1 62) (τ15.2.1 55) (τ15.2.1 36) := q13_1
  replace q13_2 : ((1 : Int) : Int) = 0 → ∀ n : Int, 0 ≤ n → n < (τ15.1 41) → 0 ≤ τ15.2.1 62 n := q13_2
  have w6_τ15 : τ15.1 6 = τ10.1 6 := hf_τ15.1 6 (by decide)
  have w7_τ15 : τ15.1 7 = τ10.1 7 := hf_τ15.1 7 (by decide)
  have w13_τ15 : τ15.1 13 = τ10.1 13 := hf_τ15.1 13 (by decide)
  have w14_τ15 : τ15.1 14 = τ10.1 14 := hf_τ15.1 14 (by decide)
  have w15_τ15 : τ15.1 15 = τ10.1 15 := hf_τ15.1 15 (by decide)
  have w44_τ15 : τ15.1 44 = τ10.1 44 := hf_τ15.1 44 (by decide)
  have g10_τ15 : τ15.2.1 10 = τ10.2.1 10 := hf_τ15.2.1 10 (by decide)
  have g13_τ15 : τ15.2.1 13 = τ10.2.1 13 := hf_τ15.2.1 13 (by decide)
  have g14_τ15 : τ15.2.1 14 = τ10.2.1 14 := hf_τ15.2.1 14 (by decide)
  have g15_τ15 : τ15.2.1 15 = τ10.2.1 15 := hf_τ15.2.1 15 (by decide)
  have g16_τ15 : τ15.2.1 16 = τ10.2.1 16 := hf_τ15.2.1 16 (by decide)
  have g27_τ15 : τ15.2.1 27 = τ10.2.1 27 := hf_τ15.2.1 27 (by decide)
  have g28_τ15 : τ15.2.1 28 = τ10.2.1 28 := hf_τ15.2.1 28 (by decide)
  have g29_τ15 : τ15.2.1 29 = τ10.2.1 29 := hf_τ15.2.1 29 (by decide)
  have g30_τ15 : τ15.2.1 30 = τ10.2.1 30 := hf_τ15.2.1 30 (by decide)
  have g31_τ15 : τ15.2.1 31 = τ10.2.1 31 := hf_τ15.2.1 31 (by decide)
  have g32_τ15 : τ15.2.1 32 = τ10.2.1 32 := hf_τ15.2.1 32 (by decide)
  have g33_τ15 : τ15.2.1 33 = τ10.2.1 33 := hf_τ15.2.1 33 (by decide)
  have g34_τ15 : τ15.2.1 34 = τ10.2.1 34 := hf_τ15.2.1 34 (by decide)
  have g35_τ15 : τ15.2.1 35 = τ10.2.1 35 := hf_τ15.2.1 35 (by decide)
  have g36_τ15 : τ15.2.1 36 = τ10.2.1 36 := hf_τ15.2.1 36 (by decide)
  have g37_τ15 : τ15.2.1 37 = τ10.2.1 37 := hf_τ15.2.1 37 (by decide)
  have g55_τ15 : τ15.2.1 55 = τ10.2.1 55 := hf_τ15.2.1 55 (by decide)
  have W6 : τ15.1 6 = σ.1 6 := by first | exact w6_τ15.trans W6 | omega
  have W7 : τ15.1 7 = σ.1 7 := by first | exact w7_τ15.trans W7 | omega
  have W13 : τ15.1 13 = σ.1 13 := by first | exact w13_τ15.trans W13 | omega
  have W14 : τ15.1 14 = σ.1 14 := by first | exact w14_τ15.trans W14 | omega
  have W15 : τ15.1 15 = σ.1 15 := by first | exact w15_τ15.trans W15 | omega
  have G10 : τ15.2.1 10 = σ.2.1 10 := (g10_τ15).trans G10
  have G13 : τ15.2.1 13 = σ.2.1 13 := (g13_τ15).trans G13
  have G14 : τ15.2.1 14 = σ.2.1 14 := (g14_τ15).trans G14
  have G15 : τ15.2.1 15 = σ.2.1 15 := (g15_τ15).trans G15
  have G16 : τ15.2.1 16 = σ.2.1 16 := (g16_τ15).trans G16
  have G27 : τ15.2.1 27 = σ.2.1 27 := (g27_τ15).trans G27
  have G28 : τ15.2.1 28 = σ.2.1 28 := (g28_τ15).trans G28
  have G29 : τ15.2.1 29 = σ.2.1 29 := (g29_τ15).trans G29
  have G30 : τ15.2.1 30 = σ.2.1 30 := (g30_τ15).trans G30
  have G31 : τ15.2.1 31 = σ.2.1 31 := (g31_τ15).trans G31
  have G32 : τ15.2.1 32 = σ.2.1 32 := (g32_τ15).trans G32
  have G33 : τ15.2.1 33 = σ.2.1 33 := (g33_τ15).trans G33
  have G34 : τ15.2.1 34 = σ.2.1 34 := (g34_τ15).trans G34
  have G35 : τ15.2.1 35 = σ.2.1 35 := (g35_τ15).trans G35
  have G36 : τ15.2.1 36 = σ.2.1 36 := (g36_τ15).trans G36
  have G37 : τ15.2.1 37 = σ.2.1 37 := (g37_τ15).trans G37
  have CJ : J_all (τ15.1 7) (τ15.1 6) (τ15.1 13) (τ15.1 14) (τ15.1 15) (τ15.2.1 13) (τ15.2.1 14) (τ15.2.1 15) (τ15.2.1 16) (τ15.2.1 10) (τ15.2.1 27) (τ15.2.1 28) (τ15.2.1 29) (τ15.2.1 30) (τ15.2.1 31) (τ15.2.1 32) (τ15.2.1 33) (τ15.2.1 34) (τ15.2.1 35) (τ15.2.1 36) (τ15.2.1 37) := by rw [show (J_all (τ15.1 7) (τ15.1 6) (τ15.1 13) (τ15.1 14) (τ15.1 15) (τ15.2.1 13) (τ15.2.1 14) (τ15.2.1 15) (τ15.2.1 16) (τ15.2.1 10) (τ15.2.1 27) (τ15.2.1 28) (τ15.2.1 29) (τ15.2.1 30) (τ15.2.1 31) (τ15.2.1 32) (τ15.2.1 33) (τ15.2.1 34) (τ15.2.1 35) (τ15.2.1 36) (τ15.2.1 37)) = (J_all (τ10.1 7) (τ10.1 6) (τ10.1 13) (τ10.1 14) (τ10.1 15) (τ10.2.1 13) (τ10.2.1 14) (τ10.2.1 15) (τ10.2.1 16) (τ10.2.1 10) (τ10.2.1 27) (τ10.2.1 28) (τ10.2.1 29) (τ10.2.1 30) (τ10.2.1 31) (τ10.2.1 32) (τ10.2.1 33) (τ10.2.1 34) (τ10.2.1 35) (τ10.2.1 36) (τ10.2.1 37)) from by rw [w6_τ15, w7_τ15, w13_τ15, w14_τ15, w15_τ15, g10_τ15, g13_τ15, g14_τ15, g15_τ15, g16_τ15, g27_τ15, g28_τ15, g29_τ15, g30_τ15, g31_τ15, g32_τ15, g33_τ15, g34_τ15, g35_τ15, g36_τ15, g37_τ15]]; exact CJ
  have TR : J_tr (τ15.1 41) ((τ15.1 15) - 1 - (τ15.1 44)) (τ15.1 44) (τ15.2.1 62) (τ15.2.1 55) (τ15.2.1 36) := q13_1
  have A10 : ∀ j, (-1) ≤ τ15.2.1 10 j ∧ τ15.2.1 10 j ≤ 99 := fun j => hT.2 10 j
  have A13 : ∀ j, 0 ≤ τ15.2.1 13 j ∧ τ15.2.1 13 j ≤ 4 := fun j => hT.2 13 j
  have A14 : ∀ j, 0 ≤ τ15.2.1 14 j ∧ τ15.2.1 14 j ≤ 30000 := fun j => hT.2 14 j
  have A15 : ∀ j, 0 ≤ τ15.2.1 15 j ∧ τ15.2.1 15 j ≤ 999 := fun j => hT.2 15 j
  have A16 : ∀ j, (-1) ≤ τ15.2.1 16 j ∧ τ15.2.1 16 j ≤ 1499 := fun j => hT.2 16 j
  have A27 : ∀ j, 0 ≤ τ15.2.1 27 j ∧ τ15.2.1 27 j ≤ 90000 := fun j => hT.2 27 j
  have A28 : ∀ j, 0 ≤ τ15.2.1 28 j ∧ τ15.2.1 28 j ≤ 60 := fun j => hT.2 28 j
  have A29 : ∀ j, 0 ≤ τ15.2.1 29 j ∧ τ15.2.1 29 j ≤ 1499 := fun j => hT.2 29 j
  have A30 : ∀ j, 0 ≤ τ15.2.1 30 j ∧ τ15.2.1 30 j ≤ 20000 := fun j => hT.2 30 j
  have A31 : ∀ j, 0 ≤ τ15.2.1 31 j ∧ τ15.2.1 31 j ≤ 20000 := fun j => hT.2 31 j
  have A32 : ∀ j, 0 ≤ τ15.2.1 32 j ∧ τ15.2.1 32 j ≤ 999999 := fun j => hT.2 32 j
  have A33 : ∀ j, 0 ≤ τ15.2.1 33 j ∧ τ15.2.1 33 j ≤ 20000 := fun j => hT.2 33 j
  have A34 : ∀ j, 0 ≤ τ15.2.1 34 j ∧ τ15.2.1 34 j ≤ 20000 := fun j => hT.2 34 j
  have A35 : ∀ j, 0 ≤ τ15.2.1 35 j ∧ τ15.2.1 35 j ≤ 1499 := fun j => hT.2 35 j
  have A36 : ∀ j, 0 ≤ τ15.2.1 36 j ∧ τ15.2.1 36 j ≤ 20000 := fun j => hT.2 36 j
  have A37 : ∀ j, 0 ≤ τ15.2.1 37 j ∧ τ15.2.1 37 j ≤ 19999 := fun j => hT.2 37 j
  have A55 : ∀ j, 0 ≤ τ15.2.1 55 j ∧ τ15.2.1 55 j ≤ 19999 := fun j => hT.2 55 j
  have A58 : ∀ j, (-2147483648) ≤ τ15.2.1 58 j ∧ τ15.2.1 58 j ≤ 2147483647 := fun j => hT.2 58 j
  have A62 : ∀ j, (-20000) ≤ τ15.2.1 62 j ∧ τ15.2.1 62 j ≤ 19999 := fun j => hT.2 62 j
  have v6 : 0 ≤ τ15.1 6 ∧ τ15.1 6 ≤ 30000 := hT.1 6
  have v7 : 0 ≤ τ15.1 7 ∧ τ15.1 7 ≤ 1500 := hT.1 7
  have v13 : 0 ≤ τ15.1 13 ∧ τ15.1 13 ≤ 90000 := hT.1 13
  have v14 : 0 ≤ τ15.1 14 ∧ τ15.1 14 ≤ 20000 := hT.1 14
  have v15 : 0 ≤ τ15.1 15 ∧ τ15.1 15 ≤ 20000 := hT.1 15
  have v41 : 0 ≤ τ15.1 41 ∧ τ15.1 41 ≤ 20001 := hT.1 41
  have v44 : 0 ≤ τ15.1 44 ∧ τ15.1 44 ≤ 20000 := hT.1 44
  refine ⟨_, K_X4_giveNumbers hT (show 0 ≤ n1 from by (first | omega | (simp only [st_s] <;> omega) | assumption | omega | fail)) (show n1 < 1500 from by (first | omega | (simp only [st_s] <;> omega) | assumption | omega | fail)) (show τ15.2.1 27 n1 + τ15.2.1 28 n1 ≤ 90000 from by (rw [G27, G28]; omega)) (show J_tr (τ15.1 41) ((τ15.1 15) - 1 - (τ15.1 44)) (τ15.1 44) (τ15.2.1 62) (τ15.2.1 55) (τ15.2.1 36) from TR), ?_⟩
  intro τ18 hn_τ18 hf_τ18 hq
  replace hT := hq
  have w6_τ18 : τ18.1 6 = τ15.1 6 := hf_τ18.1 6 (by decide)
  have w7_τ18 : τ18.1 7 = τ15.1 7 := hf_τ18.1 7 (by decide)
  have w13_τ18 : τ18.1 13 = τ15.1 13 := hf_τ18.1 13 (by decide)
  have w14_τ18 : τ18.1 14 = τ15.1 14 := hf_τ18.1 14 (by decide)
  have w15_τ18 : τ18.1 15 = τ15.1 15 := hf_τ18.1 15 (by decide)
  have w41_τ18 : τ18.1 41 = τ15.1 41 := hf_τ18.1 41 (by decide)
  have w44_τ18 : τ18.1 44 = τ15.1 44 := hf_τ18.1 44 (by decide)
  have g10_τ18 : τ18.2.1 10 = τ15.2.1 10 := hf_τ18.2.1 10 (by decide)
  have g13_τ18 : τ18.2.1 13 = τ15.2.1 13 := hf_τ18.2.1 13 (by decide)
  have g14_τ18 : τ18.2.1 14 = τ15.2.1 14 := hf_τ18.2.1 14 (by decide)
  have g15_τ18 : τ18.2.1 15 = τ15.2.1 15 := hf_τ18.2.1 15 (by decide)
  have g16_τ18 : τ18.2.1 16 = τ15.2.1 16 := hf_τ18.2.1 16 (by decide)
  have g27_τ18 : τ18.2.1 27 = τ15.2.1 27 := hf_τ18.2.1 27 (by decide)
  have g28_τ18 : τ18.2.1 28 = τ15.2.1 28 := hf_τ18.2.1 28 (by decide)
  have g29_τ18 : τ18.2.1 29 = τ15.2.1 29 := hf_τ18.2.1 29 (by decide)
  have g30_τ18 : τ18.2.1 30 = τ15.2.1 30 := hf_τ18.2.1 30 (by decide)
  have g31_τ18 : τ18.2.1 31 = τ15.2.1 31 := hf_τ18.2.1 31 (by decide)
  have g32_τ18 : τ18.2.1 32 = τ15.2.1 32 := hf_τ18.2.1 32 (by decide)
  have g33_τ18 : τ18.2.1 33 = τ15.2.1 33 := hf_τ18.2.1 33 (by decide)
  have g34_τ18 : τ18.2.1 34 = τ15.2.1 34 := hf_τ18.2.1 34 (by decide)
  have g35_τ18 : τ18.2.1 35 = τ15.2.1 35 := hf_τ18.2.1 35 (by decide)
  have g36_τ18 : τ18.2.1 36 = τ15.2.1 36 := hf_τ18.2.1 36 (by decide)
  have g37_τ18 : τ18.2.1 37 = τ15.2.1 37 := hf_τ18.2.1 37 (by decide)
  have g55_τ18 : τ18.2.1 55 = τ15.2.1 55 := hf_τ18.2.1 55 (by decide)
  have g58_τ18 : τ18.2.1 58 = τ15.2.1 58 := hf_τ18.2.1 58 (by decide)
  have g62_τ18 : τ18.2.1 62 = τ15.2.1 62 := hf_τ18.2.1 62 (by decide)
  have W6 : τ18.1 6 = σ.1 6 := by first | exact w6_τ18.trans W6 | omega
  have W7 : τ18.1 7 = σ.1 7 := by first | exact w7_τ18.trans W7 | omega
  have W13 : τ18.1 13 = σ.1 13 := by first | exact w13_τ18.trans W13 | omega
  have W14 : τ18.1 14 = σ.1 14 := by first | exact w14_τ18.trans W14 | omega
  have W15 : τ18.1 15 = σ.1 15 := by first | exact w15_τ18.trans W15 | omega
  have G10 : τ18.2.1 10 = σ.2.1 10 := (g10_τ18).trans G10
  have G13 : τ18.2.1 13 = σ.2.1 13 := (g13_τ18).trans G13
  have G14 : τ18.2.1 14 = σ.2.1 14 := (g14_τ18).trans G14
  have G15 : τ18.2.1 15 = σ.2.1 15 := (g15_τ18).trans G15
  have G16 : τ18.2.1 16 = σ.2.1 16 := (g16_τ18).trans G16
  have G27 : τ18.2.1 27 = σ.2.1 27 := (g27_τ18).trans G27
  have G28 : τ18.2.1 28 = σ.2.1 28 := (g28_τ18).trans G28
  have G29 : τ18.2.1 29 = σ.2.1 29 := (g29_τ18).trans G29
  have G30 : τ18.2.1 30 = σ.2.1 30 := (g30_τ18).trans G30
  have G31 : τ18.2.1 31 = σ.2.1 31 := (g31_τ18).trans G31
  have G32 : τ18.2.1 32 = σ.2.1 32 := (g32_τ18).trans G32
  have G33 : τ18.2.1 33 = σ.2.1 33 := (g33_τ18).trans G33
  have G34 : τ18.2.1 34 = σ.2.1 34 := (g34_τ18).trans G34
  have G35 : τ18.2.1 35 = σ.2.1 35 := (g35_τ18).trans G35
  have G36 : τ18.2.1 36 = σ.2.1 36 := (g36_τ18).trans G36
  have G37 : τ18.2.1 37 = σ.2.1 37 := (g37_τ18).trans G37
  have CJ : J_all (τ18.1 7) (τ18.1 6) (τ18.1 13) (τ18.1 14) (τ18.1 15) (τ18.2.1 13) (τ18.2.1 14) (τ18.2.1 15) (τ18.2.1 16) (τ18.2.1 10) (τ18.2.1 27) (τ18.2.1 28) (τ18.2.1 29) (τ18.2.1 30) (τ18.2.1 31) (τ18.2.1 32) (τ18.2.1 33) (τ18.2.1 34) (τ18.2.1 35) (τ18.2.1 36) (τ18.2.1 37) := by rw [show (J_all (τ18.1 7) (τ18.1 6) (τ18.1 13) (τ18.1 14) (τ18.1 15) (τ18.2.1 13) (τ18.2.1 14) (τ18.2.1 15) (τ18.2.1 16) (τ18.2.1 10) (τ18.2.1 27) (τ18.2.1 28) (τ18.2.1 29) (τ18.2.1 30) (τ18.2.1 31) (τ18.2.1 32) (τ18.2.1 33) (τ18.2.1 34) (τ18.2.1 35) (τ18.2.1 36) (τ18.2.1 37)) = (J_all (τ15.1 7) (τ15.1 6) (τ15.1 13) (τ15.1 14) (τ15.1 15) (τ15.2.1 13) (τ15.2.1 14) (τ15.2.1 15) (τ15.2.1 16) (τ15.2.1 10) (τ15.2.1 27) (τ15.2.1 28) (τ15.2.1 29) (τ15.2.1 30) (τ15.2.1 31) (τ15.2.1 32) (τ15.2.1 33) (τ15.2.1 34) (τ15.2.1 35) (τ15.2.1 36) (τ15.2.1 37)) from by rw [w6_τ18, w7_τ18, w13_τ18, w14_τ18, w15_τ18, g10_τ18, g13_τ18, g14_τ18, g15_τ18, g16_τ18, g27_τ18, g28_τ18, g29_τ18, g30_τ18, g31_τ18, g32_τ18, g33_τ18, g34_τ18, g35_τ18, g36_τ18, g37_τ18]]; exact CJ
  have TR : J_tr (τ18.1 41) ((τ18.1 15) - 1 - (τ18.1 44)) (τ18.1 44) (τ18.2.1 62) (τ18.2.1 55) (τ18.2.1 36) := by rw [show (J_tr (τ18.1 41) ((τ18.1 15) - 1 - (τ18.1 44)) (τ18.1 44) (τ18.2.1 62) (τ18.2.1 55) (τ18.2.1 36)) = (J_tr (τ15.1 41) ((τ15.1 15) - 1 - (τ15.1 44)) (τ15.1 44) (τ15.2.1 62) (τ15.2.1 55) (τ15.2.1 36)) from by rw [w15_τ18, w41_τ18, w44_τ18, g36_τ18, g55_τ18, g62_τ18]]; exact TR
  have A10 : ∀ j, (-1) ≤ τ18.2.1 10 j ∧ τ18.2.1 10 j ≤ 99 := fun j => hT.2 10 j
  have A13 : ∀ j, 0 ≤ τ18.2.1 13 j ∧ τ18.2.1 13 j ≤ 4 := fun j => hT.2 13 j
  have A14 : ∀ j, 0 ≤ τ18.2.1 14 j ∧ τ18.2.1 14 j ≤ 30000 := fun j => hT.2 14 j
  have A15 : ∀ j, 0 ≤ τ18.2.1 15 j ∧ τ18.2.1 15 j ≤ 999 := fun j => hT.2 15 j
  have A16 : ∀ j, (-1) ≤ τ18.2.1 16 j ∧ τ18.2.1 16 j ≤ 1499 := fun j => hT.2 16 j
  have A27 : ∀ j, 0 ≤ τ18.2.1 27 j ∧ τ18.2.1 27 j ≤ 90000 := fun j => hT.2 27 j
  have A28 : ∀ j, 0 ≤ τ18.2.1 28 j ∧ τ18.2.1 28 j ≤ 60 := fun j => hT.2 28 j
  have A29 : ∀ j, 0 ≤ τ18.2.1 29 j ∧ τ18.2.1 29 j ≤ 1499 := fun j => hT.2 29 j
  have A30 : ∀ j, 0 ≤ τ18.2.1 30 j ∧ τ18.2.1 30 j ≤ 20000 := fun j => hT.2 30 j
  have A31 : ∀ j, 0 ≤ τ18.2.1 31 j ∧ τ18.2.1 31 j ≤ 20000 := fun j => hT.2 31 j
  have A32 : ∀ j, 0 ≤ τ18.2.1 32 j ∧ τ18.2.1 32 j ≤ 999999 := fun j => hT.2 32 j
  have A33 : ∀ j, 0 ≤ τ18.2.1 33 j ∧ τ18.2.1 33 j ≤ 20000 := fun j => hT.2 33 j
  have A34 : ∀ j, 0 ≤ τ18.2.1 34 j ∧ τ18.2.1 34 j ≤ 20000 := fun j => hT.2 34 j
  have A35 : ∀ j, 0 ≤ τ18.2.1 35 j ∧ τ18.2.1 35 j ≤ 1499 := fun j => hT.2 35 j
  have A36 : ∀ j, 0 ≤ τ18.2.1 36 j ∧ τ18.2.1 36 j ≤ 20000 := fun j => hT.2 36 j
  have A37 : ∀ j, 0 ≤ τ18.2.1 37 j ∧ τ18.2.1 37 j ≤ 19999 := fun j => hT.2 37 j
  have A55 : ∀ j, 0 ≤ τ18.2.1 55 j ∧ τ18.2.1 55 j ≤ 19999 := fun j => hT.2 55 j
  have A58 : ∀ j, (-2147483648) ≤ τ18.2.1 58 j ∧ τ18.2.1 58 j ≤ 2147483647 := fun j => hT.2 58 j
  have A62 : ∀ j, (-20000) ≤ τ18.2.1 62 j ∧ τ18.2.1 62 j ≤ 19999 := fun j => hT.2 62 j
  have v6 : 0 ≤ τ18.1 6 ∧ τ18.1 6 ≤ 30000 := hT.1 6
  have v7 : 0 ≤ τ18.1 7 ∧ τ18.1 7 ≤ 1500 := hT.1 7
  have v13 : 0 ≤ τ18.1 13 ∧ τ18.1 13 ≤ 90000 := hT.1 13
  have v14 : 0 ≤ τ18.1 14 ∧ τ18.1 14 ≤ 20000 := hT.1 14
  have v15 : 0 ≤ τ18.1 15 ∧ τ18.1 15 ≤ 20000 := hT.1 15
  have v41 : 0 ≤ τ18.1 41 ∧ τ18.1 41 ≤ 20001 := hT.1 41
  have v44 : 0 ≤ τ18.1 44 ∧ τ18.1 44 ≤ 20000 := hT.1 44
  exact ⟨hT, (show J_tr (τ18.1 41) ((τ18.1 15) - 1 - (τ18.1 44)) (τ18.1 44) (τ18.2.1 62) (τ18.2.1 55) (τ18.2.1 36) from TR), (show (τ18.1 44) = σ.2.1 33 n1 from by (first | omega | (simp only [st_s] <;> omega) | assumption | omega | fail))⟩
set_option maxHeartbeats 1000000 in
theorem K_X4_unpack {n1 : Int} {σ : S0} (hT : c_T σ) (p1 : 0 ≤ n1) (p2 : n1 < (σ.1 7)) (p3 : σ.2.1 13 n1 = 3) (p4 : J_all (σ.1 7) (σ.1 6) (σ.1 13) (σ.1 14) (σ.1 15) (σ.2.1 13) (σ.2.1 14) (σ.2.1 15) (σ.2.1 16) (σ.2.1 10) (σ.2.1 27) (σ.2.1 28) (σ.2.1 29) (σ.2.1 30) (σ.2.1 31) (σ.2.1 32) (σ.2.1 33) (σ.2.1 34) (σ.2.1 35) (σ.2.1 36) (σ.2.1 37)) : W_X4_unpack n1 σ (fun (τ : S0) => (c_T τ) ∧ (J_tr (τ.1 41) ((τ.1 15) - 1 - (τ.1 44)) (τ.1 44) (τ.2.1 62) (τ.2.1 55) (τ.2.1 36)) ∧ ((τ.1 44) = σ.2.1 33 n1) ∧ (∀ n : Int, 0 ≤ n → n < (τ.1 41) → 0 ≤ τ.2.1 62 n)) := by
  have A10 : ∀ j, (-1) ≤ σ.2.1 10 j ∧ σ.2.1 10 j ≤ 99 := fun j => hT.2 10 j
  have A13 : ∀ j, 0 ≤ σ.2.1 13 j ∧ σ.2.1 13 j ≤ 4 := fun j => hT.2 13 j
  have A14 : ∀ j, 0 ≤ σ.2.1 14 j ∧ σ.2.1 14 j ≤ 30000 := fun j => hT.2 14 j
  have A15 : ∀ j, 0 ≤ σ.2.1 15 j ∧ σ.2.1 15 j ≤ 999 := fun j => hT.2 15 j
  have A16 : ∀ j, (-1) ≤ σ.2.1 16 j ∧ σ.2.1 16 j ≤ 1499 := fun j => hT.2 16 j
  have A27 : ∀ j, 0 ≤ σ.2.1 27 j ∧ σ.2.1 27 j ≤ 90000 := fun j => hT.2 27 j
  have A28 : ∀ j, 0 ≤ σ.2.1 28 j ∧ σ.2.1 28 j ≤ 60 := fun j => hT.2 28 j
  have A29 : ∀ j, 0 ≤ σ.2.1 29 j ∧ σ.2.1 29 j ≤ 1499 := fun j => hT.2 29 j
  have A30 : ∀ j, 0 ≤ σ.2.1 30 j ∧ σ.2.1 30 j ≤ 20000 := fun j => hT.2 30 j
  have A31 : ∀ j, 0 ≤ σ.2.1 31 j ∧ σ.2.1 31 j ≤ 20000 := fun j => hT.2 31 j
  have A32 : ∀ j, 0 ≤ σ.2.1 32 j ∧ σ.2.1 32 j ≤ 999999 := fun j => hT.2 32 j
  have A33 : ∀ j, 0 ≤ σ.2.1 33 j ∧ σ.2.1 33 j ≤ 20000 := fun j => hT.2 33 j
  have A34 : ∀ j, 0 ≤ σ.2.1 34 j ∧ σ.2.1 34 j ≤ 20000 := fun j => hT.2 34 j
  have A35 : ∀ j, 0 ≤ σ.2.1 35 j ∧ σ.2.1 35 j ≤ 1499 := fun j => hT.2 35 j
  have A36 : ∀ j, 0 ≤ σ.2.1 36 j ∧ σ.2.1 36 j ≤ 20000 := fun j => hT.2 36 j
  have A37 : ∀ j, 0 ≤ σ.2.1 37 j ∧ σ.2.1 37 j ≤ 19999 := fun j => hT.2 37 j
  have A55 : ∀ j, 0 ≤ σ.2.1 55 j ∧ σ.2.1 55 j ≤ 19999 := fun j => hT.2 55 j
  have A62 : ∀ j, (-20000) ≤ σ.2.1 62 j ∧ σ.2.1 62 j ≤ 19999 := fun j => hT.2 62 j
  have v6 : 0 ≤ σ.1 6 ∧ σ.1 6 ≤ 30000 := hT.1 6
  have v7 : 0 ≤ σ.1 7 ∧ σ.1 7 ≤ 1500 := hT.1 7
  have v13 : 0 ≤ σ.1 13 ∧ σ.1 13 ≤ 90000 := hT.1 13
  have v14 : 0 ≤ σ.1 14 ∧ σ.1 14 ≤ 20000 := hT.1 14
  have v15 : 0 ≤ σ.1 15 ∧ σ.1 15 ≤ 20000 := hT.1 15
  have v41 : 0 ≤ σ.1 41 ∧ σ.1 41 ≤ 20001 := hT.1 41
  have v44 : 0 ≤ σ.1 44 ∧ σ.1 44 ≤ 20000 := hT.1 44
  have W6 : σ.1 6 = σ.1 6 := rfl
  have W7 : σ.1 7 = σ.1 7 := rfl
  have W13 : σ.1 13 = σ.1 13 := rfl
  have W14 : σ.1 14 = σ.1 14 := rfl
  have W15 : σ.1 15 = σ.1 15 := rfl
  have G10 : σ.2.1 10 = σ.2.1 10 := rfl
  have G13 : σ.2.1 13 = σ.2.1 13 := rfl
  have G14 : σ.2.1 14 = σ.2.1 14 := rfl
  have G15 : σ.2.1 15 = σ.2.1 15 := rfl
  have G16 : σ.2.1 16 = σ.2.1 16 := rfl
  have G27 : σ.2.1 27 = σ.2.1 27 := rfl
  have G28 : σ.2.1 28 = σ.2.1 28 := rfl
  have G29 : σ.2.1 29 = σ.2.1 29 := rfl
  have G30 : σ.2.1 30 = σ.2.1 30 := rfl
  have G31 : σ.2.1 31 = σ.2.1 31 := rfl
  have G32 : σ.2.1 32 = σ.2.1 32 := rfl
  have G33 : σ.2.1 33 = σ.2.1 33 := rfl
  have G34 : σ.2.1 34 = σ.2.1 34 := rfl
  have G35 : σ.2.1 35 = σ.2.1 35 := rfl
  have G36 : σ.2.1 36 = σ.2.1 36 := rfl
  have G37 : σ.2.1 37 = σ.2.1 37 := rfl
  have G55 : σ.2.1 55 = σ.2.1 55 := rfl
  have jr := (p4.1 n1 p1 p2).2.2 p3
  have jf := (p4.1 n1 p1 p2).2.1 (by omega)
  have jb := jf.1
  have pk := J_pk_r jr (A33 n1).1 (by omega)
  have jr1 := jr.1
  have CJ : J_all (σ.1 7) (σ.1 6) (σ.1 13) (σ.1 14) (σ.1 15) (σ.2.1 13) (σ.2.1 14) (σ.2.1 15) (σ.2.1 16) (σ.2.1 10) (σ.2.1 27) (σ.2.1 28) (σ.2.1 29) (σ.2.1 30) (σ.2.1 31) (σ.2.1 32) (σ.2.1 33) (σ.2.1 34) (σ.2.1 35) (σ.2.1 36) (σ.2.1 37) := p4
  have CJ_0 := CJ
  unfold W_X4_unpack
  refine ⟨(show 0 ≤ n1 ∧ n1 < 1500 from by (first | omega | (simp only [st_s] <;> omega) | assumption | omega | fail)), ?_⟩
  intro x2 r_x2 e_x2
  have b_x2 : 0 ≤ x2 ∧ x2 ≤ 20000 := by rw [e_x2]; exact hT.2 33 _
  replace hT := cT_v (i := 44) hT (show 0 ≤ x2 ∧ x2 ≤ 20000 from by (first | omega | (simp only [st_s] <;> omega) | assumption | omega | fail))
  intro x3 r_x3 e_x3
  have b_x3 : 0 ≤ x3 ∧ x3 ≤ 20000 := by rw [e_x3]; exact hT.2 34 _
  refine ⟨(⟨by (first | omega | (simp only [st_s] <;> omega) | assumption | omega | fail), by (first | omega | (simp only [st_s] <;> omega) | assumption | omega | fail)⟩ : rg (x3 - 1)), ?_⟩
  refine ⟨_, K_X4_walk hT (show 0 ≤ (x3 - 1) from by (first | omega | (simp only [st_s] <;> omega) | assumption | omega | fail)) (show J_pk (x2) ((x3 - 1) + 1) (σ.2.1 13) (σ.2.1 28) (σ.2.1 35) (σ.2.1 36) (σ.2.1 37) from by (rw [e_x2, show x3 - 1 + 1 = σ.2.1 34 n1 from by omega]; exact pk)) (show 0 ≤ (0 : Int) ∧ (0 : Int) ≤ 1 from by (first | omega | (simp only [st_s] <;> omega) | assumption | omega | fail)) (show ¬ (0 : Int) = 0 → J_sa ((x3 - 1) + 1) (σ.2.1 55) from by (first | omega | (simp only [st_s] <;> omega) | assumption | omega | fail)) (show ¬ (0 : Int) = 0 → ∀ r : Int, 0 ≤ r → r ≤ (x3 - 1) → σ.2.1 58 r = 0 from by (first | omega | (simp only [st_s] <;> omega) | assumption | omega | fail)) (show (x2) + (x3 - 1) < (σ.1 15) from by (first | omega | (simp only [st_s] <;> omega) | assumption | omega | fail)), ?_⟩
  intro τ7 hn_τ7 hf_τ7 hq
  obtain ⟨hT, q5_1, q5_2⟩ := hq
  replace q5_1 : J_tr (τ7.1 41) ((τ7.1 15) - 1 - (τ7.1 44)) (τ7.1 44) (τ7.2.1 62) (τ7.2.1 55) (τ7.2.1 36) := q5_1
  replace q5_2 : ((0 : Int) : Int) = 0 → ∀ n : Int, 0 ≤ n → n < (τ7.1 41) → 0 ≤ τ7.2.1 62 n := q5_2
  have w6_τ7 : τ7.1 6 = σ.1 6 := hf_τ7.1 6 (by decide)
  have w7_τ7 : τ7.1 7 = σ.1 7 := hf_τ7.1 7 (by decide)
  have w13_τ7 : τ7.1 13 = σ.1 13 := hf_τ7.1 13 (by decide)
  have w14_τ7 : τ7.1 14 = σ.1 14 := hf_τ7.1 14 (by decide)
  have w15_τ7 : τ7.1 15 = σ.1 15 := hf_τ7.1 15 (by decide)
  have w44_τ7 : τ7.1 44 = x2 := hf_τ7.1 44 (by decide)
  have g10_τ7 : τ7.2.1 10 = σ.2.1 10 := hf_τ7.2.1 10 (by decide)
  have g13_τ7 : τ7.2.1 13 = σ.2.1 13 := hf_τ7.2.1 13 (by decide)
  have g14_τ7 : τ7.2.1 14 = σ.2.1 14 := hf_τ7.2.1 14 (by decide)
  have g15_τ7 : τ7.2.1 15 = σ.2.1 15 := hf_τ7.2.1 15 (by decide)
  have g16_τ7 : τ7.2.1 16 = σ.2.1 16 := hf_τ7.2.1 16 (by decide)
  have g27_τ7 : τ7.2.1 27 = σ.2.1 27 := hf_τ7.2.1 27 (by decide)
  have g28_τ7 : τ7.2.1 28 = σ.2.1 28 := hf_τ7.2.1 28 (by decide)
  have g29_τ7 : τ7.2.1 29 = σ.2.1 29 := hf_τ7.2.1 29 (by decide)
  have g30_τ7 : τ7.2.1 30 = σ.2.1 30 := hf_τ7.2.1 30 (by decide)
  have g31_τ7 : τ7.2.1 31 = σ.2.1 31 := hf_τ7.2.1 31 (by decide)
  have g32_τ7 : τ7.2.1 32 = σ.2.1 32 := hf_τ7.2.1 32 (by decide)
  have g33_τ7 : τ7.2.1 33 = σ.2.1 33 := hf_τ7.2.1 33 (by decide)
  have g34_τ7 : τ7.2.1 34 = σ.2.1 34 := hf_τ7.2.1 34 (by decide)
  have g35_τ7 : τ7.2.1 35 = σ.2.1 35 := hf_τ7.2.1 35 (by decide)
  have g36_τ7 : τ7.2.1 36 = σ.2.1 36 := hf_τ7.2.1 36 (by decide)
  have g37_τ7 : τ7.2.1 37 = σ.2.1 37 := hf_τ7.2.1 37 (by decide)
  have g55_τ7 : τ7.2.1 55 = σ.2.1 55 := hf_τ7.2.1 55 (by decide)
  have W6 : τ7.1 6 = σ.1 6 := by first | exact w6_τ7.trans W6 | omega
  have W7 : τ7.1 7 = σ.1 7 := by first | exact w7_τ7.trans W7 | omega
  have W13 : τ7.1 13 = σ.1 13 := by first | exact w13_τ7.trans W13 | omega
  have W14 : τ7.1 14 = σ.1 14 := by first | exact w14_τ7.trans W14 | omega
  have W15 : τ7.1 15 = σ.1 15 := by first | exact w15_τ7.trans W15 | omega
  have G10 : τ7.2.1 10 = σ.2.1 10 := (g10_τ7).trans G10
  have G13 : τ7.2.1 13 = σ.2.1 13 := (g13_τ7).trans G13
  have G14 : τ7.2.1 14 = σ.2.1 14 := (g14_τ7).trans G14
  have G15 : τ7.2.1 15 = σ.2.1 15 := (g15_τ7).trans G15
  have G16 : τ7.2.1 16 = σ.2.1 16 := (g16_τ7).trans G16
  have G27 : τ7.2.1 27 = σ.2.1 27 := (g27_τ7).trans G27
  have G28 : τ7.2.1 28 = σ.2.1 28 := (g28_τ7).trans G28
  have G29 : τ7.2.1 29 = σ.2.1 29 := (g29_τ7).trans G29
  have G30 : τ7.2.1 30 = σ.2.1 30 := (g30_τ7).trans G30
  have G31 : τ7.2.1 31 = σ.2.1 31 := (g31_τ7).trans G31
  have G32 : τ7.2.1 32 = σ.2.1 32 := (g32_τ7).trans G32
  have G33 : τ7.2.1 33 = σ.2.1 33 := (g33_τ7).trans G33
  have G34 : τ7.2.1 34 = σ.2.1 34 := (g34_τ7).trans G34
  have G35 : τ7.2.1 35 = σ.2.1 35 := (g35_τ7).trans G35
  have G36 : τ7.2.1 36 = σ.2.1 36 := (g36_τ7).trans G36
  have G37 : τ7.2.1 37 = σ.2.1 37 := (g37_τ7).trans G37
  have G55 : τ7.2.1 55 = σ.2.1 55 := (g55_τ7).trans G55
  have CJ : J_all (τ7.1 7) (τ7.1 6) (τ7.1 13) (τ7.1 14) (τ7.1 15) (τ7.2.1 13) (τ7.2.1 14) (τ7.2.1 15) (τ7.2.1 16) (τ7.2.1 10) (τ7.2.1 27) (τ7.2.1 28) (τ7.2.1 29) (τ7.2.1 30) (τ7.2.1 31) (τ7.2.1 32) (τ7.2.1 33) (τ7.2.1 34) (τ7.2.1 35) (τ7.2.1 36) (τ7.2.1 37) := by rw [show (J_all (τ7.1 7) (τ7.1 6) (τ7.1 13) (τ7.1 14) (τ7.1 15) (τ7.2.1 13) (τ7.2.1 14) (τ7.2.1 15) (τ7.2.1 16) (τ7.2.1 10) (τ7.2.1 27) (τ7.2.1 28) (τ7.2.1 29) (τ7.2.1 30) (τ7.2.1 31) (τ7.2.1 32) (τ7.2.1 33) (τ7.2.1 34) (τ7.2.1 35) (τ7.2.1 36) (τ7.2.1 37)) = (J_all (σ.1 7) (σ.1 6) (σ.1 13) (σ.1 14) (σ.1 15) (σ.2.1 13) (σ.2.1 14) (σ.2.1 15) (σ.2.1 16) (σ.2.1 10) (σ.2.1 27) (σ.2.1 28) (σ.2.1 29) (σ.2.1 30) (σ.2.1 31) (σ.2.1 32) (σ.2.1 33) (σ.2.1 34) (σ.2.1 35) (σ.2.1 36) (σ.2.1 37)) from by rw [w6_τ7, w7_τ7, w13_τ7, w14_τ7, w15_τ7, g10_τ7, g13_τ7, g14_τ7, g15_τ7, g16_τ7, g27_τ7, g28_τ7, g29_τ7, g30_τ7, g31_τ7, g32_τ7, g33_τ7, g34_τ7, g35_τ7, g36_τ7, g37_τ7]]; exact CJ
  have TR : J_tr (τ7.1 41) ((τ7.1 15) - 1 - (τ7.1 44)) (τ7.1 44) (τ7.2.1 62) (τ7.2.1 55) (τ7.2.1 36) := q5_1
  have A10 : ∀ j, (-1) ≤ τ7.2.1 10 j ∧ τ7.2.1 10 j ≤ 99 := fun j => hT.2 10 j
  have A13 : ∀ j, 0 ≤ τ7.2.1 13 j ∧ τ7.2.1 13 j ≤ 4 := fun j => hT.2 13 j
  have A14 : ∀ j, 0 ≤ τ7.2.1 14 j ∧ τ7.2.1 14 j ≤ 30000 := fun j => hT.2 14 j
  have A15 : ∀ j, 0 ≤ τ7.2.1 15 j ∧ τ7.2.1 15 j ≤ 999 := fun j => hT.2 15 j
  have A16 : ∀ j, (-1) ≤ τ7.2.1 16 j ∧ τ7.2.1 16 j ≤ 1499 := fun j => hT.2 16 j
  have A27 : ∀ j, 0 ≤ τ7.2.1 27 j ∧ τ7.2.1 27 j ≤ 90000 := fun j => hT.2 27 j
  have A28 : ∀ j, 0 ≤ τ7.2.1 28 j ∧ τ7.2.1 28 j ≤ 60 := fun j => hT.2 28 j
  have A29 : ∀ j, 0 ≤ τ7.2.1 29 j ∧ τ7.2.1 29 j ≤ 1499 := fun j => hT.2 29 j
  have A30 : ∀ j, 0 ≤ τ7.2.1 30 j ∧ τ7.2.1 30 j ≤ 20000 := fun j => hT.2 30 j
  have A31 : ∀ j, 0 ≤ τ7.2.1 31 j ∧ τ7.2.1 31 j ≤ 20000 := fun j => hT.2 31 j
  have A32 : ∀ j, 0 ≤ τ7.2.1 32 j ∧ τ7.2.1 32 j ≤ 999999 := fun j => hT.2 32 j
  have A33 : ∀ j, 0 ≤ τ7.2.1 33 j ∧ τ7.2.1 33 j ≤ 20000 := fun j => hT.2 33 j
  have A34 : ∀ j, 0 ≤ τ7.2.1 34 j ∧ τ7.2.1 34 j ≤ 20000 := fun j => hT.2 34 j
  have A35 : ∀ j, 0 ≤ τ7.2.1 35 j ∧ τ7.2.1 35 j ≤ 1499 := fun j => hT.2 35 j
  have A36 : ∀ j, 0 ≤ τ7.2.1 36 j ∧ τ7.2.1 36 j ≤ 20000 := fun j => hT.2 36 j
  have A37 : ∀ j, 0 ≤ τ7.2.1 37 j ∧ τ7.2.1 37 j ≤ 19999 := fun j => hT.2 37 j
  have A55 : ∀ j, 0 ≤ τ7.2.1 55 j ∧ τ7.2.1 55 j ≤ 19999 := fun j => hT.2 55 j
  have A62 : ∀ j, (-20000) ≤ τ7.2.1 62 j ∧ τ7.2.1 62 j ≤ 19999 := fun j => hT.2 62 j
  have v6 : 0 ≤ τ7.1 6 ∧ τ7.1 6 ≤ 30000 := hT.1 6
  have v7 : 0 ≤ τ7.1 7 ∧ τ7.1 7 ≤ 1500 := hT.1 7
  have v13 : 0 ≤ τ7.1 13 ∧ τ7.1 13 ≤ 90000 := hT.1 13
  have v14 : 0 ≤ τ7.1 14 ∧ τ7.1 14 ≤ 20000 := hT.1 14
  have v15 : 0 ≤ τ7.1 15 ∧ τ7.1 15 ≤ 20000 := hT.1 15
  have v41 : 0 ≤ τ7.1 41 ∧ τ7.1 41 ≤ 20001 := hT.1 41
  have v44 : 0 ≤ τ7.1 44 ∧ τ7.1 44 ≤ 20000 := hT.1 44
  exact ⟨hT, (show J_tr (τ7.1 41) ((τ7.1 15) - 1 - (τ7.1 44)) (τ7.1 44) (τ7.2.1 62) (τ7.2.1 55) (τ7.2.1 36) from TR), (show (τ7.1 44) = σ.2.1 33 n1 from by (first | omega | (simp only [st_s] <;> omega) | assumption | omega | fail)), (show ∀ n : Int, 0 ≤ n → n < (τ7.1 41) → 0 ≤ τ7.2.1 62 n from by exact q5_2 rfl)⟩
set_option maxHeartbeats 1000000 in
theorem K_X4_numberOf {n1 : Int} {σ : S0} (hT : c_T σ) (p1 : 0 ≤ n1) (p2 : n1 < 20001) (p3 : σ.2.1 62 n1 ≤ (σ.1 15) - 1 - (σ.1 44)) : W_X4_numberOf n1 σ (fun (x : Int) => (0 ≤ x ∧ x ≤ 30000)) := by
  have A59 : ∀ j, 0 ≤ σ.2.1 59 j ∧ σ.2.1 59 j ≤ 30000 := fun j => hT.2 59 j
  have A60 : ∀ j, 0 ≤ σ.2.1 60 j ∧ σ.2.1 60 j ≤ 2000 := fun j => hT.2 60 j
  have A62 : ∀ j, (-20000) ≤ σ.2.1 62 j ∧ σ.2.1 62 j ≤ 19999 := fun j => hT.2 62 j
  have v15 : 0 ≤ σ.1 15 ∧ σ.1 15 ≤ 20000 := hT.1 15
  have v44 : 0 ≤ σ.1 44 ∧ σ.1 44 ≤ 20000 := hT.1 44
  unfold W_X4_numberOf
  refine ⟨(show 0 ≤ n1 ∧ n1 < 20001 from by (first | omega | (simp only [st_s] <;> omega) | assumption | omega | fail)), ?_⟩
  intro x2 r_x2 e_x2
  have b_x2 : (-20000) ≤ x2 ∧ x2 ≤ 19999 := by rw [e_x2]; exact hT.2 62 _
  refine ⟨fun c3 => ?_, fun c3 => ?_⟩
  ·
    refine ⟨_, K_X4_statementOf hT (show 0 ≤ n1 from by (first | omega | (simp only [st_s] <;> omega) | assumption | omega | fail)) (show n1 < 20001 from by (first | omega | (simp only [st_s] <;> omega) | assumption | omega | fail)) (show σ.2.1 62 n1 ≤ (σ.1 15) - 1 - (σ.1 44) from by (first | omega | (simp only [st_s] <;> omega) | assumption | omega | fail)), ?_⟩
    intro x5 r_x5 hq
    obtain ⟨q4_1, q4_2, q4_3⟩ := hq
    replace q4_1 : -1 ≤ x5 ∧ x5 ≤ 1499 := q4_1
    replace q4_2 : 0 ≤ σ.2.1 62 n1 → 0 ≤ x5 := q4_2
    replace q4_3 : σ.2.1 62 n1 < 0 → x5 = -1 := q4_3
    refine ⟨(show 0 ≤ x5 ∧ x5 < 1500 from by (first | omega | (simp only [st_s] <;> omega) | assumption | omega | fail)), ?_⟩
    intro x8 r_x8 e_x8
    have b_x8 : 0 ≤ x8 ∧ x8 ≤ 2000 := by rw [e_x8]; exact hT.2 60 _
    exact (show 0 ≤ x8 ∧ x8 ≤ 30000 from by (first | omega | (simp only [st_s] <;> omega) | assumption | omega | fail))
  ·
    intro x9 r_x9 e_x9
    have b_x9 : (-20000) ≤ x9 ∧ x9 ≤ 19999 := by rw [e_x9]; exact hT.2 62 _
    refine ⟨(show 0 ≤ (-1 - x9) ∧ (-1 - x9) < 20000 from by (first | omega | (simp only [st_s] <;> omega) | assumption | omega | fail)), ?_⟩
    intro x11 r_x11 e_x11
    have b_x11 : 0 ≤ x11 ∧ x11 ≤ 30000 := by rw [e_x11]; exact hT.2 59 _
    exact (show 0 ≤ x11 ∧ x11 ≤ 30000 from by (first | omega | (simp only [st_s] <;> omega) | assumption | omega | fail))
set_option maxHeartbeats 1000000 in
theorem K_X4_fillIn {n1 : Int} {σ : S0} (hT : c_T σ) (p1 : -20000 ≤ n1) (p2 : n1 ≤ (σ.1 15) - 1 - (σ.1 44)) (p3 : n1 < 0 → σ.2.1 59 (-1 - n1) < σ.2.1 57 (-1 - n1) ∧ σ.2.1 57 (-1 - n1) ≤ (σ.1 43)) : W_X4_fillIn n1 σ (fun (x : Int) (τ : S0) => (c_T τ) ∧ (0 ≤ x ∧ x ≤ 1) ∧ (¬ x = 0 → (σ.1 43) < (τ.1 43))) := by
  have A35 : ∀ j, 0 ≤ σ.2.1 35 j ∧ σ.2.1 35 j ≤ 1499 := fun j => hT.2 35 j
  have A57 : ∀ j, 0 ≤ σ.2.1 57 j ∧ σ.2.1 57 j ≤ 20000 := fun j => hT.2 57 j
  have A59 : ∀ j, 0 ≤ σ.2.1 59 j ∧ σ.2.1 59 j ≤ 30000 := fun j => hT.2 59 j
  have v15 : 0 ≤ σ.1 15 ∧ σ.1 15 ≤ 20000 := hT.1 15
  have v43 : 0 ≤ σ.1 43 ∧ σ.1 43 ≤ 4000 := hT.1 43
  have v44 : 0 ≤ σ.1 44 ∧ σ.1 44 ≤ 20000 := hT.1 44
  have W15 : σ.1 15 = σ.1 15 := rfl
  have W44 : σ.1 44 = σ.1 44 := rfl
  have G35 : σ.2.1 35 = σ.2.1 35 := rfl
  have G57 : σ.2.1 57 = σ.2.1 57 := rfl
  have G59 : σ.2.1 59 = σ.2.1 59 := rfl
  intro P16 P35 P61 P105 h16 h35 h61 h105
  have l_61 : ∀ (m_61 : Nat) (u2_61 : Int) (u3_61 : Int) (u4_61 : Int) (τ_61 : S0), 4001 - u4_61 < (m_61 : Int) → (c_T τ_61) → (τ_61.1 15 = σ.1 15) → (τ_61.1 44 = σ.1 44) → (τ_61.2.1 35 = σ.2.1 35) → (τ_61.2.1 57 = σ.2.1 57) → (τ_61.2.1 59 = σ.2.1 59) → (0 ≤ u4_61) → (u4_61 ≤ u3_61) → (1 ≤ u3_61) → ((τ_61.1 43) = (σ.1 43) + u4_61) → ((σ.1 43) + u3_61 ≤ 4000) → (n1 < 0 → 0 ≤ u2_61 ∧ u2_61 + u3_61 ≤ (σ.1 43)) → P61 n1 u2_61 u3_61 u4_61 τ_61 := by
    intro m_61
    induction m_61 with
    | zero =>
      intro u2_61 u3_61 u4_61 τ_61 hm hT W15 W44 G35 G57 G59 i61_1 i61_2 i61_3 i61_4 i61_5 i61_6
      have A35 : ∀ j, 0 ≤ τ_61.2.1 35 j ∧ τ_61.2.1 35 j ≤ 1499 := fun j => hT.2 35 j
      have A57 : ∀ j, 0 ≤ τ_61.2.1 57 j ∧ τ_61.2.1 57 j ≤ 20000 := fun j => hT.2 57 j
      have A59 : ∀ j, 0 ≤ τ_61.2.1 59 j ∧ τ_61.2.1 59 j ≤ 30000 := fun j => hT.2 59 j
      have v15 : 0 ≤ τ_61.1 15 ∧ τ_61.1 15 ≤ 20000 := hT.1 15
      have v43 : 0 ≤ τ_61.1 43 ∧ τ_61.1 43 ≤ 4000 := hT.1 43
      have v44 : 0 ≤ τ_61.1 44 ∧ τ_61.1 44 ≤ 20000 := hT.1 44
      exfalso; (first | omega | (simp only [st_s] <;> omega) | assumption | omega | fail)
    | succ m_61 ih_61 =>
      intro u2_61 u3_61 u4_61 τ_61 hm_61 hT W15 W44 G35 G57 G59 i61_1 i61_2 i61_3 i61_4 i61_5 i61_6
      have A35 : ∀ j, 0 ≤ τ_61.2.1 35 j ∧ τ_61.2.1 35 j ≤ 1499 := fun j => hT.2 35 j
      have A57 : ∀ j, 0 ≤ τ_61.2.1 57 j ∧ τ_61.2.1 57 j ≤ 20000 := fun j => hT.2 57 j
      have A59 : ∀ j, 0 ≤ τ_61.2.1 59 j ∧ τ_61.2.1 59 j ≤ 30000 := fun j => hT.2 59 j
      have v15 : 0 ≤ τ_61.1 15 ∧ τ_61.1 15 ≤ 20000 := hT.1 15
      have v43 : 0 ≤ τ_61.1 43 ∧ τ_61.1 43 ≤ 4000 := hT.1 43
      have v44 : 0 ≤ τ_61.1 44 ∧ τ_61.1 44 ≤ 20000 := hT.1 44
      refine h61 n1 u2_61 u3_61 u4_61 τ_61 ?_
      refine ⟨fun c12 => ?_, fun c12 => ?_⟩
      ·
        exact ⟨hT, (show 0 ≤ 1 ∧ 1 ≤ 1 from by (first | omega | (simp only [st_s] <;> omega) | assumption | omega | fail)), (show ¬ 1 = 0 → (σ.1 43) < (τ_61.1 43) from by (first | omega | (simp only [st_s] <;> omega) | assumption | omega | fail))⟩
      ·
        refine ⟨fun c13 => ?_, fun c13 => ?_⟩
        ·
          refine ⟨(show 0 ≤ (τ_61.1 44 + n1) ∧ (τ_61.1 44 + n1) < 20000 from by (first | omega | (simp only [st_s] <;> omega) | assumption | omega | fail)), ?_⟩
          intro x15 r_x15 e_x15
          have b_x15 : 0 ≤ x15 ∧ x15 ≤ 1499 := by rw [e_x15]; exact hT.2 35 _
          refine h105 _ _ _ _ _ _ _ ?_
          refine ⟨(show 0 ≤ (τ_61.1 43) ∧ (τ_61.1 43) < 4000 from by (first | omega | (simp only [st_s] <;> omega) | assumption | omega | fail)), ?_⟩
          replace hT := cT_a (k := 65) (j := (τ_61.1 43)) hT (show (-1 : Int) ≤ x15 ∧ x15 ≤ 1499 from by (first | omega | (simp only [st_s] <;> omega) | assumption | omega | fail))
          refine ⟨(⟨by (first | omega | (simp only [st_s] <;> omega) | assumption | omega | fail), by (first | omega | (simp only [st_s] <;> omega) | assumption | omega | fail)⟩ : rg (τ_61.1 43 + 1)), ?_⟩
          replace hT := cT_v (i := 43) hT (show 0 ≤ (τ_61.1 43 + 1) ∧ (τ_61.1 43 + 1) ≤ 4000 from by (first | omega | (simp only [st_s] <;> omega) | assumption | omega | fail))
          refine ⟨(⟨by (first | omega | (simp only [st_s] <;> omega) | assumption | omega | fail), by (first | omega | (simp only [st_s] <;> omega) | assumption | omega | fail)⟩ : rg (u4_61 + 1)), ?_⟩
          exact ih_61 _ _ _ _ (show (4001 - (u4_61 + 1) : Int) < ((m_61 : Nat) : Int) from by ((first | omega | (simp only [st_s] <;> omega) | assumption | omega | fail))) hT (show τ_61.1 15 = σ.1 15 from by first | exact W15 | omega) (show τ_61.1 44 = σ.1 44 from by first | exact W44 | omega) G35 G57 G59 (show 0 ≤ (u4_61 + 1) from by (first | omega | (simp only [st_s] <;> omega) | assumption | omega | fail)) (show (u4_61 + 1) ≤ u3_61 from by (first | omega | (simp only [st_s] <;> omega) | assumption | omega | fail)) (show 1 ≤ u3_61 from by (first | omega | (simp only [st_s] <;> omega) | assumption | omega | fail)) (show ((τ_61.1 43 + 1)) = (σ.1 43) + (u4_61 + 1) from by (first | omega | (simp only [st_s] <;> omega) | assumption | omega | fail)) (show (σ.1 43) + u3_61 ≤ 4000 from by (first | omega | (simp only [st_s] <;> omega) | assumption | omega | fail)) (show n1 < 0 → 0 ≤ u2_61 ∧ u2_61 + u3_61 ≤ (σ.1 43) from by (first | omega | (simp only [st_s] <;> omega) | assumption | omega | fail))
        ·
          refine ⟨(show 0 ≤ (u2_61 + u4_61) ∧ (u2_61 + u4_61) < 4000 from by (first | omega | (simp only [st_s] <;> omega) | assumption | omega | fail)), ?_⟩
          intro x17 r_x17 e_x17
          have b_x17 : (-1) ≤ x17 ∧ x17 ≤ 1499 := by rw [e_x17]; exact hT.2 65 _
          refine h105 _ _ _ _ _ _ _ ?_
          refine ⟨(show 0 ≤ (τ_61.1 43) ∧ (τ_61.1 43) < 4000 from by (first | omega | (simp only [st_s] <;> omega) | assumption | omega | fail)), ?_⟩
          replace hT := cT_a (k := 65) (j := (τ_61.1 43)) hT (show (-1 : Int) ≤ x17 ∧ x17 ≤ 1499 from by (first | omega | (simp only [st_s] <;> omega) | assumption | omega | fail))
          refine ⟨(⟨by (first | omega | (simp only [st_s] <;> omega) | assumption | omega | fail), by (first | omega | (simp only [st_s] <;> omega) | assumption | omega | fail)⟩ : rg (τ_61.1 43 + 1)), ?_⟩
          replace hT := cT_v (i := 43) hT (show 0 ≤ (τ_61.1 43 + 1) ∧ (τ_61.1 43 + 1) ≤ 4000 from by (first | omega | (simp only [st_s] <;> omega) | assumption | omega | fail))
          refine ⟨(⟨by (first | omega | (simp only [st_s] <;> omega) | assumption | omega | fail), by (first | omega | (simp only [st_s] <;> omega) | assumption | omega | fail)⟩ : rg (u4_61 + 1)), ?_⟩
          exact ih_61 _ _ _ _ (show (4001 - (u4_61 + 1) : Int) < ((m_61 : Nat) : Int) from by ((first | omega | (simp only [st_s] <;> omega) | assumption | omega | fail))) hT (show τ_61.1 15 = σ.1 15 from by first | exact W15 | omega) (show τ_61.1 44 = σ.1 44 from by first | exact W44 | omega) G35 G57 G59 (show 0 ≤ (u4_61 + 1) from by (first | omega | (simp only [st_s] <;> omega) | assumption | omega | fail)) (show (u4_61 + 1) ≤ u3_61 from by (first | omega | (simp only [st_s] <;> omega) | assumption | omega | fail)) (show 1 ≤ u3_61 from by (first | omega | (simp only [st_s] <;> omega) | assumption | omega | fail)) (show ((τ_61.1 43 + 1)) = (σ.1 43) + (u4_61 + 1) from by (first | omega | (simp only [st_s] <;> omega) | assumption | omega | fail)) (show (σ.1 43) + u3_61 ≤ 4000 from by (first | omega | (simp only [st_s] <;> omega) | assumption | omega | fail)) (show n1 < 0 → 0 ≤ u2_61 ∧ u2_61 + u3_61 ≤ (σ.1 43) from by (first | omega | (simp only [st_s] <;> omega) | assumption | omega | fail))
  refine ⟨fun c1 => ?_, fun c1 => ?_⟩
  ·
    refine h16 _ _ _ ?_
    refine ⟨fun c4 => ?_, fun c4 => ?_⟩
    ·
      refine h35 _ _ _ _ ?_
      refine ⟨fun c8 => ?_, fun c8 => ?_⟩
      ·
        exact ⟨hT, (show 0 ≤ 0 ∧ 0 ≤ 1 from by (first | omega | (simp only [st_s] <;> omega) | assumption | omega | fail)), (show ¬ 0 = 0 → (σ.1 43) < (σ.1 43) from by (first | omega | (simp only [st_s] <;> omega) | assumption | omega | fail))⟩
      ·
        refine ⟨fun c9 => ?_, fun c9 => ?_⟩
        ·
          exact ⟨hT, (show 0 ≤ 0 ∧ 0 ≤ 1 from by (first | omega | (simp only [st_s] <;> omega) | assumption | omega | fail)), (show ¬ 0 = 0 → (σ.1 43) < (σ.1 43) from by (first | omega | (simp only [st_s] <;> omega) | assumption | omega | fail))⟩
        ·
          refine ⟨(⟨by (first | omega | (simp only [st_s] <;> omega) | assumption | omega | fail), by (first | omega | (simp only [st_s] <;> omega) | assumption | omega | fail)⟩ : rg (σ.1 43 + 1)), ?_⟩
          refine ⟨fun c11 => ?_, fun c11 => ?_⟩
          ·
            exact l_61 ((4001 - 0 : Int).toNat + 1) _ _ _ _ (show (4001 - 0 : Int) < (((4001 - 0 : Int).toNat + 1 : Nat) : Int) from by ((first | omega | (simp only [st_s] <;> omega) | assumption | omega | fail))) hT (show σ.1 15 = σ.1 15 from by first | exact W15 | omega) (show σ.1 44 = σ.1 44 from by first | exact W44 | omega) G35 G57 G59 (show 0 ≤ 0 from by (first | omega | (simp only [st_s] <;> omega) | assumption | omega | fail)) (show 0 ≤ 1 from by (first | omega | (simp only [st_s] <;> omega) | assumption | omega | fail)) (show 1 ≤ 1 from by (first | omega | (simp only [st_s] <;> omega) | assumption | omega | fail)) (show (σ.1 43) = (σ.1 43) + 0 from by (first | omega | (simp only [st_s] <;> omega) | assumption | omega | fail)) (show (σ.1 43) + 1 ≤ 4000 from by (first | omega | (simp only [st_s] <;> omega) | assumption | omega | fail)) (show n1 < 0 → 0 ≤ 0 ∧ 0 + 1 ≤ (σ.1 43) from by (first | omega | (simp only [st_s] <;> omega) | assumption | omega | fail))
          ·
            exact ⟨hT, (show 0 ≤ 0 ∧ 0 ≤ 1 from by (first | omega | (simp only [st_s] <;> omega) | assumption | omega | fail)), (show ¬ 0 = 0 → (σ.1 43) < (σ.1 43) from by (first | omega | (simp only [st_s] <;> omega) | assumption | omega | fail))⟩
    ·
      refine ⟨(show 0 ≤ (-1 - n1) ∧ (-1 - n1) < 20000 from by (first | omega | (simp only [st_s] <;> omega) | assumption | omega | fail)), ?_⟩
      intro x6 r_x6 e_x6
      have b_x6 : 0 ≤ x6 ∧ x6 ≤ 20000 := by rw [e_x6]; exact hT.2 57 _
      refine ⟨(⟨by (first | omega | (simp only [st_s] <;> omega) | assumption | omega | fail), by (first | omega | (simp only [st_s] <;> omega) | assumption | omega | fail)⟩ : rg (x6 - 0)), ?_⟩
      refine h35 _ _ _ _ ?_
      refine ⟨fun c8 => ?_, fun c8 => ?_⟩
      ·
        exact ⟨hT, (show 0 ≤ 0 ∧ 0 ≤ 1 from by (first | omega | (simp only [st_s] <;> omega) | assumption | omega | fail)), (show ¬ 0 = 0 → (σ.1 43) < (σ.1 43) from by (first | omega | (simp only [st_s] <;> omega) | assumption | omega | fail))⟩
      ·
        refine ⟨fun c9 => ?_, fun c9 => ?_⟩
        ·
          exact ⟨hT, (show 0 ≤ 0 ∧ 0 ≤ 1 from by (first | omega | (simp only [st_s] <;> omega) | assumption | omega | fail)), (show ¬ 0 = 0 → (σ.1 43) < (σ.1 43) from by (first | omega | (simp only [st_s] <;> omega) | assumption | omega | fail))⟩
        ·
          refine ⟨(⟨by (first | omega | (simp only [st_s] <;> omega) | assumption | omega | fail), by (first | omega | (simp only [st_s] <;> omega) | assumption | omega | fail)⟩ : rg (σ.1 43 + (x6 - 0))), ?_⟩
          refine ⟨fun c11 => ?_, fun c11 => ?_⟩
          ·
            exact l_61 ((4001 - 0 : Int).toNat + 1) _ _ _ _ (show (4001 - 0 : Int) < (((4001 - 0 : Int).toNat + 1 : Nat) : Int) from by ((first | omega | (simp only [st_s] <;> omega) | assumption | omega | fail))) hT (show σ.1 15 = σ.1 15 from by first | exact W15 | omega) (show σ.1 44 = σ.1 44 from by first | exact W44 | omega) G35 G57 G59 (show 0 ≤ 0 from by (first | omega | (simp only [st_s] <;> omega) | assumption | omega | fail)) (show 0 ≤ (x6 - 0) from by (first | omega | (simp only [st_s] <;> omega) | assumption | omega | fail)) (show 1 ≤ (x6 - 0) from by (first | omega | (simp only [st_s] <;> omega) | assumption | omega | fail)) (show (σ.1 43) = (σ.1 43) + 0 from by (first | omega | (simp only [st_s] <;> omega) | assumption | omega | fail)) (show (σ.1 43) + (x6 - 0) ≤ 4000 from by (first | omega | (simp only [st_s] <;> omega) | assumption | omega | fail)) (show n1 < 0 → 0 ≤ 0 ∧ 0 + (x6 - 0) ≤ (σ.1 43) from by (first | omega | (simp only [st_s] <;> omega) | assumption | omega | fail))
          ·
            exact ⟨hT, (show 0 ≤ 0 ∧ 0 ≤ 1 from by (first | omega | (simp only [st_s] <;> omega) | assumption | omega | fail)), (show ¬ 0 = 0 → (σ.1 43) < (σ.1 43) from by (first | omega | (simp only [st_s] <;> omega) | assumption | omega | fail))⟩
  ·
    refine ⟨(show 0 ≤ (-1 - n1) ∧ (-1 - n1) < 20000 from by (first | omega | (simp only [st_s] <;> omega) | assumption | omega | fail)), ?_⟩
    intro x3 r_x3 e_x3
    have b_x3 : 0 ≤ x3 ∧ x3 ≤ 30000 := by rw [e_x3]; exact hT.2 59 _
    have n59 := A59 (-1 - n1)
    refine h16 _ _ _ ?_
    refine ⟨fun c4 => ?_, fun c4 => ?_⟩
    ·
      refine h35 _ _ _ _ ?_
      refine ⟨fun c8 => ?_, fun c8 => ?_⟩
      ·
        exact ⟨hT, (show 0 ≤ 0 ∧ 0 ≤ 1 from by (first | omega | (simp only [st_s] <;> omega) | assumption | omega | fail)), (show ¬ 0 = 0 → (σ.1 43) < (σ.1 43) from by (first | omega | (simp only [st_s] <;> omega) | assumption | omega | fail))⟩
      ·
        refine ⟨fun c9 => ?_, fun c9 => ?_⟩
        ·
          exact ⟨hT, (show 0 ≤ 0 ∧ 0 ≤ 1 from by (first | omega | (simp only [st_s] <;> omega) | assumption | omega | fail)), (show ¬ 0 = 0 → (σ.1 43) < (σ.1 43) from by (first | omega | (simp only [st_s] <;> omega) | assumption | omega | fail))⟩
        ·
          refine ⟨(⟨by (first | omega | (simp only [st_s] <;> omega) | assumption | omega | fail), by (first | omega | (simp only [st_s] <;> omega) | assumption | omega | fail)⟩ : rg (σ.1 43 + 1)), ?_⟩
          refine ⟨fun c11 => ?_, fun c11 => ?_⟩
          ·
            exact l_61 ((4001 - 0 : Int).toNat + 1) _ _ _ _ (show (4001 - 0 : Int) < (((4001 - 0 : Int).toNat + 1 : Nat) : Int) from by ((first | omega | (simp only [st_s] <;> omega) | assumption | omega | fail))) hT (show σ.1 15 = σ.1 15 from by first | exact W15 | omega) (show σ.1 44 = σ.1 44 from by first | exact W44 | omega) G35 G57 G59 (show 0 ≤ 0 from by (first | omega | (simp only [st_s] <;> omega) | assumption | omega | fail)) (show 0 ≤ 1 from by (first | omega | (simp only [st_s] <;> omega) | assumption | omega | fail)) (show 1 ≤ 1 from by (first | omega | (simp only [st_s] <;> omega) | assumption | omega | fail)) (show (σ.1 43) = (σ.1 43) + 0 from by (first | omega | (simp only [st_s] <;> omega) | assumption | omega | fail)) (show (σ.1 43) + 1 ≤ 4000 from by (first | omega | (simp only [st_s] <;> omega) | assumption | omega | fail)) (show n1 < 0 → 0 ≤ x3 ∧ x3 + 1 ≤ (σ.1 43) from by (first | omega | (simp only [st_s] <;> omega) | assumption | omega | fail))
          ·
            exact ⟨hT, (show 0 ≤ 0 ∧ 0 ≤ 1 from by (first | omega | (simp only [st_s] <;> omega) | assumption | omega | fail)), (show ¬ 0 = 0 → (σ.1 43) < (σ.1 43) from by (first | omega | (simp only [st_s] <;> omega) | assumption | omega | fail))⟩
    ·
      refine ⟨(show 0 ≤ (-1 - n1) ∧ (-1 - n1) < 20000 from by (first | omega | (simp only [st_s] <;> omega) | assumption | omega | fail)), ?_⟩
      intro x6 r_x6 e_x6
      have b_x6 : 0 ≤ x6 ∧ x6 ≤ 20000 := by rw [e_x6]; exact hT.2 57 _
      refine ⟨(⟨by (first | omega | (simp only [st_s] <;> omega) | assumption | omega | fail), by (first | omega | (simp only [st_s] <;> omega) | assumption | omega | fail)⟩ : rg (x6 - x3)), ?_⟩
      refine h35 _ _ _ _ ?_
      refine ⟨fun c8 => ?_, fun c8 => ?_⟩
      ·
        exact ⟨hT, (show 0 ≤ 0 ∧ 0 ≤ 1 from by (first | omega | (simp only [st_s] <;> omega) | assumption | omega | fail)), (show ¬ 0 = 0 → (σ.1 43) < (σ.1 43) from by (first | omega | (simp only [st_s] <;> omega) | assumption | omega | fail))⟩
      ·
        refine ⟨fun c9 => ?_, fun c9 => ?_⟩
        ·
          exact ⟨hT, (show 0 ≤ 0 ∧ 0 ≤ 1 from by (first | omega | (simp only [st_s] <;> omega) | assumption | omega | fail)), (show ¬ 0 = 0 → (σ.1 43) < (σ.1 43) from by (first | omega | (simp only [st_s] <;> omega) | assumption | omega | fail))⟩
        ·
          refine ⟨(⟨by (first | omega | (simp only [st_s] <;> omega) | assumption | omega | fail), by (first | omega | (simp only [st_s] <;> omega) | assumption | omega | fail)⟩ : rg (σ.1 43 + (x6 - x3))), ?_⟩
          refine ⟨fun c11 => ?_, fun c11 => ?_⟩
          ·
            exact l_61 ((4001 - 0 : Int).toNat + 1) _ _ _ _ (show (4001 - 0 : Int) < (((4001 - 0 : Int).toNat + 1 : Nat) : Int) from by ((first | omega | (simp only [st_s] <;> omega) | assumption | omega | fail))) hT (show σ.1 15 = σ.1 15 from by first | exact W15 | omega) (show σ.1 44 = σ.1 44 from by first | exact W44 | omega) G35 G57 G59 (show 0 ≤ 0 from by (first | omega | (simp only [st_s] <;> omega) | assumption | omega | fail)) (show 0 ≤ (x6 - x3) from by (first | omega | (simp only [st_s] <;> omega) | assumption | omega | fail)) (show 1 ≤ (x6 - x3) from by (first | omega | (simp only [st_s] <;> omega) | assumption | omega | fail)) (show (σ.1 43) = (σ.1 43) + 0 from by (first | omega | (simp only [st_s] <;> omega) | assumption | omega | fail)) (show (σ.1 43) + (x6 - x3) ≤ 4000 from by (first | omega | (simp only [st_s] <;> omega) | assumption | omega | fail)) (show n1 < 0 → 0 ≤ x3 ∧ x3 + (x6 - x3) ≤ (σ.1 43) from by (first | omega | (simp only [st_s] <;> omega) | assumption | omega | fail))
          ·
            exact ⟨hT, (show 0 ≤ 0 ∧ 0 ≤ 1 from by (first | omega | (simp only [st_s] <;> omega) | assumption | omega | fail)), (show ¬ 0 = 0 → (σ.1 43) < (σ.1 43) from by (first | omega | (simp only [st_s] <;> omega) | assumption | omega | fail))⟩
set_option maxHeartbeats 1000000 in
theorem K_X4_fill {σ : S0} (hT : c_T σ) (p1 : J_tr (σ.1 41) ((σ.1 15) - 1 - (σ.1 44)) (σ.1 44) (σ.2.1 62) (σ.2.1 55) (σ.2.1 36)) (p2 : J_all (σ.1 7) (σ.1 6) (σ.1 13) (σ.1 14) (σ.1 15) (σ.2.1 13) (σ.2.1 14) (σ.2.1 15) (σ.2.1 16) (σ.2.1 10) (σ.2.1 27) (σ.2.1 28) (σ.2.1 29) (σ.2.1 30) (σ.2.1 31) (σ.2.1 32) (σ.2.1 33) (σ.2.1 34) (σ.2.1 35) (σ.2.1 36) (σ.2.1 37)) : W_X4_fill σ (fun (x : Int) (τ : S0) => (c_T τ) ∧ (0 ≤ x ∧ x ≤ 1)) := by
  have A10 : ∀ j, (-1) ≤ σ.2.1 10 j ∧ σ.2.1 10 j ≤ 99 := fun j => hT.2 10 j
  have A13 : ∀ j, 0 ≤ σ.2.1 13 j ∧ σ.2.1 13 j ≤ 4 := fun j => hT.2 13 j
  have A14 : ∀ j, 0 ≤ σ.2.1 14 j ∧ σ.2.1 14 j ≤ 30000 := fun j => hT.2 14 j
  have A15 : ∀ j, 0 ≤ σ.2.1 15 j ∧ σ.2.1 15 j ≤ 999 := fun j => hT.2 15 j
  have A16 : ∀ j, (-1) ≤ σ.2.1 16 j ∧ σ.2.1 16 j ≤ 1499 := fun j => hT.2 16 j
  have A27 : ∀ j, 0 ≤ σ.2.1 27 j ∧ σ.2.1 27 j ≤ 90000 := fun j => hT.2 27 j
  have A28 : ∀ j, 0 ≤ σ.2.1 28 j ∧ σ.2.1 28 j ≤ 60 := fun j => hT.2 28 j
  have A29 : ∀ j, 0 ≤ σ.2.1 29 j ∧ σ.2.1 29 j ≤ 1499 := fun j => hT.2 29 j
  have A30 : ∀ j, 0 ≤ σ.2.1 30 j ∧ σ.2.1 30 j ≤ 20000 := fun j => hT.2 30 j
  have A31 : ∀ j, 0 ≤ σ.2.1 31 j ∧ σ.2.1 31 j ≤ 20000 := fun j => hT.2 31 j
  have A32 : ∀ j, 0 ≤ σ.2.1 32 j ∧ σ.2.1 32 j ≤ 999999 := fun j => hT.2 32 j
  have A33 : ∀ j, 0 ≤ σ.2.1 33 j ∧ σ.2.1 33 j ≤ 20000 := fun j => hT.2 33 j
  have A34 : ∀ j, 0 ≤ σ.2.1 34 j ∧ σ.2.1 34 j ≤ 20000 := fun j => hT.2 34 j
  have A35 : ∀ j, 0 ≤ σ.2.1 35 j ∧ σ.2.1 35 j ≤ 1499 := fun j => hT.2 35 j
  have A36 : ∀ j, 0 ≤ σ.2.1 36 j ∧ σ.2.1 36 j ≤ 20000 := fun j => hT.2 36 j
  have A37 : ∀ j, 0 ≤ σ.2.1 37 j ∧ σ.2.1 37 j ≤ 19999 := fun j => hT.2 37 j
  have A55 : ∀ j, 0 ≤ σ.2.1 55 j ∧ σ.2.1 55 j ≤ 19999 := fun j => hT.2 55 j
  have A57 : ∀ j, 0 ≤ σ.2.1 57 j ∧ σ.2.1 57 j ≤ 20000 := fun j => hT.2 57 j
  have A59 : ∀ j, 0 ≤ σ.2.1 59 j ∧ σ.2.1 59 j ≤ 30000 := fun j => hT.2 59 j
  have A62 : ∀ j, (-20000) ≤ σ.2.1 62 j ∧ σ.2.1 62 j ≤ 19999 := fun j => hT.2 62 j
  have A66 : ∀ j, 0 ≤ σ.2.1 66 j ∧ σ.2.1 66 j ≤ 4000 := fun j => hT.2 66 j
  have v6 : 0 ≤ σ.1 6 ∧ σ.1 6 ≤ 30000 := hT.1 6
  have v7 : 0 ≤ σ.1 7 ∧ σ.1 7 ≤ 1500 := hT.1 7
  have v13 : 0 ≤ σ.1 13 ∧ σ.1 13 ≤ 90000 := hT.1 13
  have v14 : 0 ≤ σ.1 14 ∧ σ.1 14 ≤ 20000 := hT.1 14
  have v15 : 0 ≤ σ.1 15 ∧ σ.1 15 ≤ 20000 := hT.1 15
  have v41 : 0 ≤ σ.1 41 ∧ σ.1 41 ≤ 20001 := hT.1 41
  have v43 : 0 ≤ σ.1 43 ∧ σ.1 43 ≤ 4000 := hT.1 43
  have v44 : 0 ≤ σ.1 44 ∧ σ.1 44 ≤ 20000 := hT.1 44
  have W6 : σ.1 6 = σ.1 6 := rfl
  have W7 : σ.1 7 = σ.1 7 := rfl
  have W13 : σ.1 13 = σ.1 13 := rfl
  have W14 : σ.1 14 = σ.1 14 := rfl
  have W15 : σ.1 15 = σ.1 15 := rfl
  have W41 : σ.1 41 = σ.1 41 := rfl
  have W44 : σ.1 44 = σ.1 44 := rfl
  have G10 : σ.2.1 10 = σ.2.1 10 := rfl
  have G13 : σ.2.1 13 = σ.2.1 13 := rfl
  have G14 : σ.2.1 14 = σ.2.1 14 := rfl
  have G15 : σ.2.1 15 = σ.2.1 15 := rfl
  have G16 : σ.2.1 16 = σ.2.1 16 := rfl
  have G27 : σ.2.1 27 = σ.2.1 27 := rfl
  have G28 : σ.2.1 28 = σ.2.1 28 := rfl
  have G29 : σ.2.1 29 = σ.2.1 29 := rfl
  have G30 : σ.2.1 30 = σ.2.1 30 := rfl
  have G31 : σ.2.1 31 = σ.2.1 31 := rfl
  have G32 : σ.2.1 32 = σ.2.1 32 := rfl
  have G33 : σ.2.1 33 = σ.2.1 33 := rfl
  have G34 : σ.2.1 34 = σ.2.1 34 := rfl
  have G35 : σ.2.1 35 = σ.2.1 35 := rfl
  have G36 : σ.2.1 36 = σ.2.1 36 := rfl
  have G37 : σ.2.1 37 = σ.2.1 37 := rfl
  have G55 : σ.2.1 55 = σ.2.1 55 := rfl
  have G62 : σ.2.1 62 = σ.2.1 62 := rfl
  intro P9 P51 P115 h9 h51 h115
  have trx := p1
  have cmx := p2.2
  have CJ : J_all (σ.1 7) (σ.1 6) (σ.1 13) (σ.1 14) (σ.1 15) (σ.2.1 13) (σ.2.1 14) (σ.2.1 15) (σ.2.1 16) (σ.2.1 10) (σ.2.1 27) (σ.2.1 28) (σ.2.1 29) (σ.2.1 30) (σ.2.1 31) (σ.2.1 32) (σ.2.1 33) (σ.2.1 34) (σ.2.1 35) (σ.2.1 36) (σ.2.1 37) := p2
  have TR : J_tr (σ.1 41) ((σ.1 15) - 1 - (σ.1 44)) (σ.1 44) (σ.2.1 62) (σ.2.1 55) (σ.2.1 36) := p1
  have CJ_0 := CJ
  have TR_0 := TR
  have l_9 : ∀ (m_9 : Nat) (u1_9 : Int) (u2_9 : Int) (τ_9 : S0), 20002 - u2_9 < (m_9 : Int) → (c_T τ_9) → (τ_9.1 6 = σ.1 6) → (τ_9.1 7 = σ.1 7) → (τ_9.1 13 = σ.1 13) → (τ_9.1 14 = σ.1 14) → (τ_9.1 15 = σ.1 15) → (τ_9.1 41 = σ.1 41) → (τ_9.1 44 = σ.1 44) → (τ_9.2.1 10 = σ.2.1 10) → (τ_9.2.1 13 = σ.2.1 13) → (τ_9.2.1 14 = σ.2.1 14) → (τ_9.2.1 15 = σ.2.1 15) → (τ_9.2.1 16 = σ.2.1 16) → (τ_9.2.1 27 = σ.2.1 27) → (τ_9.2.1 28 = σ.2.1 28) → (τ_9.2.1 29 = σ.2.1 29) → (τ_9.2.1 30 = σ.2.1 30) → (τ_9.2.1 31 = σ.2.1 31) → (τ_9.2.1 32 = σ.2.1 32) → (τ_9.2.1 33 = σ.2.1 33) → (τ_9.2.1 34 = σ.2.1 34) → (τ_9.2.1 35 = σ.2.1 35) → (τ_9.2.1 36 = σ.2.1 36) → (τ_9.2.1 37 = σ.2.1 37) → (τ_9.2.1 55 = σ.2.1 55) → (τ_9.2.1 62 = σ.2.1 62) → (0 ≤ u2_9) → (u2_9 ≤ 20001) → (0 ≤ u1_9) → (u1_9 ≤ u2_9) → (u2_9 ≤ (τ_9.1 43)) → (J_nf u2_9 (τ_9.1 44) (τ_9.1 43) (τ_9.2.1 62) (τ_9.2.1 55) (τ_9.2.1 36) (τ_9.2.1 59) (τ_9.2.1 57)) → (∀ p : Int, 0 ≤ p → p < u1_9 → τ_9.2.1 66 p ≤ (τ_9.1 43)) → P9 u1_9 u2_9 τ_9 := by
    intro m_9
    induction m_9 with
    | zero =>
      intro u1_9 u2_9 τ_9 hm hT W6 W7 W13 W14 W15 W41 W44 G10 G13 G14 G15 G16 G27 G28 G29 G30 G31 G32 G33 G34 G35 G36 G37 G55 G62 i9_1 i9_2 i9_3 i9_4 i9_5 i9_6 i9_7
      have A10 : ∀ j, (-1) ≤ τ_9.2.1 10 j ∧ τ_9.2.1 10 j ≤ 99 := fun j => hT.2 10 j
      have A13 : ∀ j, 0 ≤ τ_9.2.1 13 j ∧ τ_9.2.1 13 j ≤ 4 := fun j => hT.2 13 j
      have A14 : ∀ j, 0 ≤ τ_9.2.1 14 j ∧ τ_9.2.1 14 j ≤ 30000 := fun j => hT.2 14 j
      have A15 : ∀ j, 0 ≤ τ_9.2.1 15 j ∧ τ_9.2.1 15 j ≤ 999 := fun j => hT.2 15 j
      have A16 : ∀ j, (-1) ≤ τ_9.2.1 16 j ∧ τ_9.2.1 16 j ≤ 1499 := fun j => hT.2 16 j
      have A27 : ∀ j, 0 ≤ τ_9.2.1 27 j ∧ τ_9.2.1 27 j ≤ 90000 := fun j => hT.2 27 j
      have A28 : ∀ j, 0 ≤ τ_9.2.1 28 j ∧ τ_9.2.1 28 j ≤ 60 := fun j => hT.2 28 j
      have A29 : ∀ j, 0 ≤ τ_9.2.1 29 j ∧ τ_9.2.1 29 j ≤ 1499 := fun j => hT.2 29 j
      have A30 : ∀ j, 0 ≤ τ_9.2.1 30 j ∧ τ_9.2.1 30 j ≤ 20000 := fun j => hT.2 30 j
      have A31 : ∀ j, 0 ≤ τ_9.2.1 31 j ∧ τ_9.2.1 31 j ≤ 20000 := fun j => hT.2 31 j
      have A32 : ∀ j, 0 ≤ τ_9.2.1 32 j ∧ τ_9.2.1 32 j ≤ 999999 := fun j => hT.2 32 j
      have A33 : ∀ j, 0 ≤ τ_9.2.1 33 j ∧ τ_9.2.1 33 j ≤ 20000 := fun j => hT.2 33 j
      have A34 : ∀ j, 0 ≤ τ_9.2.1 34 j ∧ τ_9.2.1 34 j ≤ 20000 := fun j => hT.2 34 j
      have A35 : ∀ j, 0 ≤ τ_9.2.1 35 j ∧ τ_9.2.1 35 j ≤ 1499 := fun j => hT.2 35 j
      have A36 : ∀ j, 0 ≤ τ_9.2.1 36 j ∧ τ_9.2.1 36 j ≤ 20000 := fun j => hT.2 36 j
      have A37 : ∀ j, 0 ≤ τ_9.2.1 37 j ∧ τ_9.2.1 37 j ≤ 19999 := fun j => hT.2 37 j
      have A55 : ∀ j, 0 ≤ τ_9.2.1 55 j ∧ τ_9.2.1 55 j ≤ 19999 := fun j => hT.2 55 j
      have A57 : ∀ j, 0 ≤ τ_9.2.1 57 j ∧ τ_9.2.1 57 j ≤ 20000 := fun j => hT.2 57 j
      have A59 : ∀ j, 0 ≤ τ_9.2.1 59 j ∧ τ_9.2.1 59 j ≤ 30000 := fun j => hT.2 59 j
      have A62 : ∀ j, (-20000) ≤ τ_9.2.1 62 j ∧ τ_9.2.1 62 j ≤ 19999 := fun j => hT.2 62 j
      have A66 : ∀ j, 0 ≤ τ_9.2.1 66 j ∧ τ_9.2.1 66 j ≤ 4000 := fun j => hT.2 66 j
      have v6 : 0 ≤ τ_9.1 6 ∧ τ_9.1 6 ≤ 30000 := hT.1 6
      have v7 : 0 ≤ τ_9.1 7 ∧ τ_9.1 7 ≤ 1500 := hT.1 7
      have v13 : 0 ≤ τ_9.1 13 ∧ τ_9.1 13 ≤ 90000 := hT.1 13
      have v14 : 0 ≤ τ_9.1 14 ∧ τ_9.1 14 ≤ 20000 := hT.1 14
      have v15 : 0 ≤ τ_9.1 15 ∧ τ_9.1 15 ≤ 20000 := hT.1 15
      have v41 : 0 ≤ τ_9.1 41 ∧ τ_9.1 41 ≤ 20001 := hT.1 41
      have v43 : 0 ≤ τ_9.1 43 ∧ τ_9.1 43 ≤ 4000 := hT.1 43
      have v44 : 0 ≤ τ_9.1 44 ∧ τ_9.1 44 ≤ 20000 := hT.1 44
      exfalso; (first | omega | (simp only [st_s] <;> omega) | assumption | omega | fail)
    | succ m_9 ih_9 =>
      intro u1_9 u2_9 τ_9 hm_9 hT W6 W7 W13 W14 W15 W41 W44 G10 G13 G14 G15 G16 G27 G28 G29 G30 G31 G32 G33 G34 G35 G36 G37 G55 G62 i9_1 i9_2 i9_3 i9_4 i9_5 i9_6 i9_7
      have A10 : ∀ j, (-1) ≤ τ_9.2.1 10 j ∧ τ_9.2.1 10 j ≤ 99 := fun j => hT.2 10 j
      have A13 : ∀ j, 0 ≤ τ_9.2.1 13 j ∧ τ_9.2.1 13 j ≤ 4 := fun j => hT.2 13 j
      have A14 : ∀ j, 0 ≤ τ_9.2.1 14 j ∧ τ_9.2.1 14 j ≤ 30000 := fun j => hT.2 14 j
      have A15 : ∀ j, 0 ≤ τ_9.2.1 15 j ∧ τ_9.2.1 15 j ≤ 999 := fun j => hT.2 15 j
      have A16 : ∀ j, (-1) ≤ τ_9.2.1 16 j ∧ τ_9.2.1 16 j ≤ 1499 := fun j => hT.2 16 j
      have A27 : ∀ j, 0 ≤ τ_9.2.1 27 j ∧ τ_9.2.1 27 j ≤ 90000 := fun j => hT.2 27 j
      have A28 : ∀ j, 0 ≤ τ_9.2.1 28 j ∧ τ_9.2.1 28 j ≤ 60 := fun j => hT.2 28 j
      have A29 : ∀ j, 0 ≤ τ_9.2.1 29 j ∧ τ_9.2.1 29 j ≤ 1499 := fun j => hT.2 29 j
      have A30 : ∀ j, 0 ≤ τ_9.2.1 30 j ∧ τ_9.2.1 30 j ≤ 20000 := fun j => hT.2 30 j
      have A31 : ∀ j, 0 ≤ τ_9.2.1 31 j ∧ τ_9.2.1 31 j ≤ 20000 := fun j => hT.2 31 j
      have A32 : ∀ j, 0 ≤ τ_9.2.1 32 j ∧ τ_9.2.1 32 j ≤ 999999 := fun j => hT.2 32 j
      have A33 : ∀ j, 0 ≤ τ_9.2.1 33 j ∧ τ_9.2.1 33 j ≤ 20000 := fun j => hT.2 33 j
      have A34 : ∀ j, 0 ≤ τ_9.2.1 34 j ∧ τ_9.2.1 34 j ≤ 20000 := fun j => hT.2 34 j
      have A35 : ∀ j, 0 ≤ τ_9.2.1 35 j ∧ τ_9.2.1 35 j ≤ 1499 := fun j => hT.2 35 j
      have A36 : ∀ j, 0 ≤ τ_9.2.1 36 j ∧ τ_9.2.1 36 j ≤ 20000 := fun j => hT.2 36 j
      have A37 : ∀ j, 0 ≤ τ_9.2.1 37 j ∧ τ_9.2.1 37 j ≤ 19999 := fun j => hT.2 37 j
      have A55 : ∀ j, 0 ≤ τ_9.2.1 55 j ∧ τ_9.2.1 55 j ≤ 19999 := fun j => hT.2 55 j
      have A57 : ∀ j, 0 ≤ τ_9.2.1 57 j ∧ τ_9.2.1 57 j ≤ 20000 := fun j => hT.2 57 j
      have A59 : ∀ j, 0 ≤ τ_9.2.1 59 j ∧ τ_9.2.1 59 j ≤ 30000 := fun j => hT.2 59 j
      have A62 : ∀ j, (-20000) ≤ τ_9.2.1 62 j ∧ τ_9.2.1 62 j ≤ 19999 := fun j => hT.2 62 j
      have A66 : ∀ j, 0 ≤ τ_9.2.1 66 j ∧ τ_9.2.1 66 j ≤ 4000 := fun j => hT.2 66 j
      have v6 : 0 ≤ τ_9.1 6 ∧ τ_9.1 6 ≤ 30000 := hT.1 6
      have v7 : 0 ≤ τ_9.1 7 ∧ τ_9.1 7 ≤ 1500 := hT.1 7
      have v13 : 0 ≤ τ_9.1 13 ∧ τ_9.1 13 ≤ 90000 := hT.1 13
      have v14 : 0 ≤ τ_9.1 14 ∧ τ_9.1 14 ≤ 20000 := hT.1 14
      have v15 : 0 ≤ τ_9.1 15 ∧ τ_9.1 15 ≤ 20000 := hT.1 15
      have v41 : 0 ≤ τ_9.1 41 ∧ τ_9.1 41 ≤ 20001 := hT.1 41
      have v43 : 0 ≤ τ_9.1 43 ∧ τ_9.1 43 ≤ 4000 := hT.1 43
      have v44 : 0 ≤ τ_9.1 44 ∧ τ_9.1 44 ≤ 20000 := hT.1 44
      have CJ : J_all (τ_9.1 7) (τ_9.1 6) (τ_9.1 13) (τ_9.1 14) (τ_9.1 15) (τ_9.2.1 13) (τ_9.2.1 14) (τ_9.2.1 15) (τ_9.2.1 16) (τ_9.2.1 10) (τ_9.2.1 27) (τ_9.2.1 28) (τ_9.2.1 29) (τ_9.2.1 30) (τ_9.2.1 31) (τ_9.2.1 32) (τ_9.2.1 33) (τ_9.2.1 34) (τ_9.2.1 35) (τ_9.2.1 36) (τ_9.2.1 37) := by rw [show (J_all (τ_9.1 7) (τ_9.1 6) (τ_9.1 13) (τ_9.1 14) (τ_9.1 15) (τ_9.2.1 13) (τ_9.2.1 14) (τ_9.2.1 15) (τ_9.2.1 16) (τ_9.2.1 10) (τ_9.2.1 27) (τ_9.2.1 28) (τ_9.2.1 29) (τ_9.2.1 30) (τ_9.2.1 31) (τ_9.2.1 32) (τ_9.2.1 33) (τ_9.2.1 34) (τ_9.2.1 35) (τ_9.2.1 36) (τ_9.2.1 37)) = (J_all (σ.1 7) (σ.1 6) (σ.1 13) (σ.1 14) (σ.1 15) (σ.2.1 13) (σ.2.1 14) (σ.2.1 15) (σ.2.1 16) (σ.2.1 10) (σ.2.1 27) (σ.2.1 28) (σ.2.1 29) (σ.2.1 30) (σ.2.1 31) (σ.2.1 32) (σ.2.1 33) (σ.2.1 34) (σ.2.1 35) (σ.2.1 36) (σ.2.1 37)) from by rw [W6, W7, W13, W14, W15, G10, G13, G14, G15, G16, G27, G28, G29, G30, G31, G32, G33, G34, G35, G36, G37]]; exact CJ_0
      have TR : J_tr (τ_9.1 41) ((τ_9.1 15) - 1 - (τ_9.1 44)) (τ_9.1 44) (τ_9.2.1 62) (τ_9.2.1 55) (τ_9.2.1 36) := by rw [show (J_tr (τ_9.1 41) ((τ_9.1 15) - 1 - (τ_9.1 44)) (τ_9.1 44) (τ_9.2.1 62) (τ_9.2.1 55) (τ_9.2.1 36)) = (J_tr (σ.1 41) ((σ.1 15) - 1 - (σ.1 44)) (σ.1 44) (σ.2.1 62) (σ.2.1 55) (σ.2.1 36)) from by rw [W15, W41, W44, G36, G55, G62]]; exact TR_0
      refine h9 u1_9 u2_9 τ_9 ?_
      refine ⟨fun c1 => ?_, fun c1 => ?_⟩
      ·
        refine ⟨fun c2 => ?_, fun c2 => ?_⟩
        ·
          exact ⟨hT, (show 0 ≤ 0 ∧ 0 ≤ 1 from by (first | omega | (simp only [st_s] <;> omega) | assumption | omega | fail))⟩
        ·
          exact ⟨hT, (show 0 ≤ 1 ∧ 1 ≤ 1 from by (first | omega | (simp only [st_s] <;> omega) | assumption | omega | fail))⟩
      ·
        have tr := trx u2_9 (by omega) (by omega)
        refine ⟨(show 0 ≤ u2_9 ∧ u2_9 < 20001 from by (first | omega | (simp only [st_s] <;> omega) | assumption | omega | fail)), ?_⟩
        intro x4 r_x4 e_x4
        have b_x4 : (-20000) ≤ x4 ∧ x4 ≤ 19999 := by rw [e_x4]; exact hT.2 62 _
        have e4 := e_x4
        rw [G62] at e4
        have e5 := e4
        refine ⟨fun c5 => ?_, fun c5 => ?_⟩
        ·
          refine ⟨(⟨by (first | omega | (simp only [st_s] <;> omega) | assumption | omega | fail), by (first | omega | (simp only [st_s] <;> omega) | assumption | omega | fail)⟩ : rg (τ_9.1 44 + x4)), ?_⟩
          have cc : τ_9.2.1 36 (τ_9.1 44 + x4) ≤ τ_9.2.1 36 (τ_9.1 44 + x4 + 1) := by rw [G36, W44]; exact J_pk_cc cmx (by omega) (by omega) (by omega)
          refine ⟨_, K_X0_childCount hT (show 0 ≤ (τ_9.1 44 + x4) from by (first | omega | (simp only [st_s] <;> omega) | assumption | omega | fail)) (show (τ_9.1 44 + x4) < 20000 from by (first | omega | (simp only [st_s] <;> omega) | assumption | omega | fail)), ?_⟩
          intro x8 r_x8 hq
          have q7_1 := hq
          replace q7_1 : x8 = τ_9.2.1 36 ((τ_9.1 44 + x4) + 1) - τ_9.2.1 36 (τ_9.1 44 + x4) := q7_1
          refine h51 _ _ _ _ _ _ ?_
          refine ⟨fun c10 => ?_, fun c10 => ?_⟩
          ·
            exact ⟨hT, (show 0 ≤ 0 ∧ 0 ≤ 1 from by (first | omega | (simp only [st_s] <;> omega) | assumption | omega | fail))⟩
          ·
            have nfx := i9_6
            have rf : x4 < 0 → τ_9.2.1 59 (-1 - x4) < τ_9.2.1 57 (-1 - x4) ∧ τ_9.2.1 57 (-1 - x4) ≤ τ_9.1 43 := by intro z; rcases tr with q | ⟨q, m, m0, m1, m2, m3, m4, m5⟩; (exfalso; omega); (have w := i9_6 m m0 m1 (by rw [G62]; exact m2) (by rw [G62, G36, W44]; exact m4); rw [G55, G62, m5, ← G62, ← e_x4] at w; exact w)
            refine ⟨_, K_X4_fillIn hT (show -20000 ≤ x4 from by (first | omega | (simp only [st_s] <;> omega) | assumption | omega | fail)) (show x4 ≤ (τ_9.1 15) - 1 - (τ_9.1 44) from by (first | omega | (simp only [st_s] <;> omega) | assumption | omega | fail)) (show x4 < 0 → τ_9.2.1 59 (-1 - x4) < τ_9.2.1 57 (-1 - x4) ∧ τ_9.2.1 57 (-1 - x4) ≤ (τ_9.1 43) from by exact rf), ?_⟩
            intro x12 τ13 r_x12 hn_τ13 hf_τ13 hq
            obtain ⟨hT, q11_1, q11_2⟩ := hq
            replace q11_1 : 0 ≤ x12 ∧ x12 ≤ 1 := q11_1
            replace q11_2 : ¬ x12 = 0 → (τ_9.1 43) < (τ13.1 43) := q11_2
            have w6_τ13 : τ13.1 6 = τ_9.1 6 := hf_τ13.1 6 (by decide)
            have w7_τ13 : τ13.1 7 = τ_9.1 7 := hf_τ13.1 7 (by decide)
            have w13_τ13 : τ13.1 13 = τ_9.1 13 := hf_τ13.1 13 (by decide)
            have w14_τ13 : τ13.1 14 = τ_9.1 14 := hf_τ13.1 14 (by decide)
            have w15_τ13 : τ13.1 15 = τ_9.1 15 := hf_τ13.1 15 (by decide)
            have w41_τ13 : τ13.1 41 = τ_9.1 41 := hf_τ13.1 41 (by decide)
            have w44_τ13 : τ13.1 44 = τ_9.1 44 := hf_τ13.1 44 (by decide)
            have g10_τ13 : τ13.2.1 10 = τ_9.2.1 10 := hf_τ13.2.1 10 (by decide)
            have g13_τ13 : τ13.2.1 13 = τ_9.2.1 13 := hf_τ13.2.1 13 (by decide)
            have g14_τ13 : τ13.2.1 14 = τ_9.2.1 14 := hf_τ13.2.1 14 (by decide)
            have g15_τ13 : τ13.2.1 15 = τ_9.2.1 15 := hf_τ13.2.1 15 (by decide)
            have g16_τ13 : τ13.2.1 16 = τ_9.2.1 16 := hf_τ13.2.1 16 (by decide)
            have g27_τ13 : τ13.2.1 27 = τ_9.2.1 27 := hf_τ13.2.1 27 (by decide)
            have g28_τ13 : τ13.2.1 28 = τ_9.2.1 28 := hf_τ13.2.1 28 (by decide)
            have g29_τ13 : τ13.2.1 29 = τ_9.2.1 29 := hf_τ13.2.1 29 (by decide)
            have g30_τ13 : τ13.2.1 30 = τ_9.2.1 30 := hf_τ13.2.1 30 (by decide)
            have g31_τ13 : τ13.2.1 31 = τ_9.2.1 31 := hf_τ13.2.1 31 (by decide)
            have g32_τ13 : τ13.2.1 32 = τ_9.2.1 32 := hf_τ13.2.1 32 (by decide)
            have g33_τ13 : τ13.2.1 33 = τ_9.2.1 33 := hf_τ13.2.1 33 (by decide)
            have g34_τ13 : τ13.2.1 34 = τ_9.2.1 34 := hf_τ13.2.1 34 (by decide)
            have g35_τ13 : τ13.2.1 35 = τ_9.2.1 35 := hf_τ13.2.1 35 (by decide)
            have g36_τ13 : τ13.2.1 36 = τ_9.2.1 36 := hf_τ13.2.1 36 (by decide)
            have g37_τ13 : τ13.2.1 37 = τ_9.2.1 37 := hf_τ13.2.1 37 (by decide)
            have g55_τ13 : τ13.2.1 55 = τ_9.2.1 55 := hf_τ13.2.1 55 (by decide)
            have g57_τ13 : τ13.2.1 57 = τ_9.2.1 57 := hf_τ13.2.1 57 (by decide)
            have g59_τ13 : τ13.2.1 59 = τ_9.2.1 59 := hf_τ13.2.1 59 (by decide)
            have g62_τ13 : τ13.2.1 62 = τ_9.2.1 62 := hf_τ13.2.1 62 (by decide)
            have g66_τ13 : τ13.2.1 66 = τ_9.2.1 66 := hf_τ13.2.1 66 (by decide)
            have W6 : τ13.1 6 = σ.1 6 := by first | exact w6_τ13.trans W6 | omega
            have W7 : τ13.1 7 = σ.1 7 := by first | exact w7_τ13.trans W7 | omega
            have W13 : τ13.1 13 = σ.1 13 := by first | exact w13_τ13.trans W13 | omega
            have W14 : τ13.1 14 = σ.1 14 := by first | exact w14_τ13.trans W14 | omega
            have W15 : τ13.1 15 = σ.1 15 := by first | exact w15_τ13.trans W15 | omega
            have W41 : τ13.1 41 = σ.1 41 := by first | exact w41_τ13.trans W41 | omega
            have W44 : τ13.1 44 = σ.1 44 := by first | exact w44_τ13.trans W44 | omega
            have G10 : τ13.2.1 10 = σ.2.1 10 := (g10_τ13).trans G10
            have G13 : τ13.2.1 13 = σ.2.1 13 := (g13_τ13).trans G13
            have G14 : τ13.2.1 14 = σ.2.1 14 := (g14_τ13).trans G14
            have G15 : τ13.2.1 15 = σ.2.1 15 := (g15_τ13).trans G15
            have G16 : τ13.2.1 16 = σ.2.1 16 := (g16_τ13).trans G16
            have G27 : τ13.2.1 27 = σ.2.1 27 := (g27_τ13).trans G27
            have G28 : τ13.2.1 28 = σ.2.1 28 := (g28_τ13).trans G28
            have G29 : τ13.2.1 29 = σ.2.1 29 := (g29_τ13).trans G29
            have G30 : τ13.2.1 30 = σ.2.1 30 := (g30_τ13).trans G30
            have G31 : τ13.2.1 31 = σ.2.1 31 := (g31_τ13).trans G31
            have G32 : τ13.2.1 32 = σ.2.1 32 := (g32_τ13).trans G32
            have G33 : τ13.2.1 33 = σ.2.1 33 := (g33_τ13).trans G33
            have G34 : τ13.2.1 34 = σ.2.1 34 := (g34_τ13).trans G34
            have G35 : τ13.2.1 35 = σ.2.1 35 := (g35_τ13).trans G35
            have G36 : τ13.2.1 36 = σ.2.1 36 := (g36_τ13).trans G36
            have G37 : τ13.2.1 37 = σ.2.1 37 := (g37_τ13).trans G37
            have G55 : τ13.2.1 55 = σ.2.1 55 := (g55_τ13).trans G55
            have G62 : τ13.2.1 62 = σ.2.1 62 := (g62_τ13).trans G62
            have CJ : J_all (τ13.1 7) (τ13.1 6) (τ13.1 13) (τ13.1 14) (τ13.1 15) (τ13.2.1 13) (τ13.2.1 14) (τ13.2.1 15) (τ13.2.1 16) (τ13.2.1 10) (τ13.2.1 27) (τ13.2.1 28) (τ13.2.1 29) (τ13.2.1 30) (τ13.2.1 31) (τ13.2.1 32) (τ13.2.1 33) (τ13.2.1 34) (τ13.2.1 35) (τ13.2.1 36) (τ13.2.1 37) := by rw [show (J_all (τ13.1 7) (τ13.1 6) (τ13.1 13) (τ13.1 14) (τ13.1 15) (τ13.2.1 13) (τ13.2.1 14) (τ13.2.1 15) (τ13.2.1 16) (τ13.2.1 10) (τ13.2.1 27) (τ13.2.1 28) (τ13.2.1 29) (τ13.2.1 30) (τ13.2.1 31) (τ13.2.1 32) (τ13.2.1 33) (τ13.2.1 34) (τ13.2.1 35) (τ13.2.1 36) (τ13.2.1 37)) = (J_all (τ_9.1 7) (τ_9.1 6) (τ_9.1 13) (τ_9.1 14) (τ_9.1 15) (τ_9.2.1 13) (τ_9.2.1 14) (τ_9.2.1 15) (τ_9.2.1 16) (τ_9.2.1 10) (τ_9.2.1 27) (τ_9.2.1 28) (τ_9.2.1 29) (τ_9.2.1 30) (τ_9.2.1 31) (τ_9.2.1 32) (τ_9.2.1 33) (τ_9.2.1 34) (τ_9.2.1 35) (τ_9.2.1 36) (τ_9.2.1 37)) from by rw [w6_τ13, w7_τ13, w13_τ13, w14_τ13, w15_τ13, g10_τ13, g13_τ13, g14_τ13, g15_τ13, g16_τ13, g27_τ13, g28_τ13, g29_τ13, g30_τ13, g31_τ13, g32_τ13, g33_τ13, g34_τ13, g35_τ13, g36_τ13, g37_τ13]]; exact CJ
            have TR : J_tr (τ13.1 41) ((τ13.1 15) - 1 - (τ13.1 44)) (τ13.1 44) (τ13.2.1 62) (τ13.2.1 55) (τ13.2.1 36) := by rw [show (J_tr (τ13.1 41) ((τ13.1 15) - 1 - (τ13.1 44)) (τ13.1 44) (τ13.2.1 62) (τ13.2.1 55) (τ13.2.1 36)) = (J_tr (τ_9.1 41) ((τ_9.1 15) - 1 - (τ_9.1 44)) (τ_9.1 44) (τ_9.2.1 62) (τ_9.2.1 55) (τ_9.2.1 36)) from by rw [w15_τ13, w41_τ13, w44_τ13, g36_τ13, g55_τ13, g62_τ13]]; exact TR
            have A10 : ∀ j, (-1) ≤ τ13.2.1 10 j ∧ τ13.2.1 10 j ≤ 99 := fun j => hT.2 10 j
            have A13 : ∀ j, 0 ≤ τ13.2.1 13 j ∧ τ13.2.1 13 j ≤ 4 := fun j => hT.2 13 j
            have A14 : ∀ j, 0 ≤ τ13.2.1 14 j ∧ τ13.2.1 14 j ≤ 30000 := fun j => hT.2 14 j
            have A15 : ∀ j, 0 ≤ τ13.2.1 15 j ∧ τ13.2.1 15 j ≤ 999 := fun j => hT.2 15 j
            have A16 : ∀ j, (-1) ≤ τ13.2.1 16 j ∧ τ13.2.1 16 j ≤ 1499 := fun j => hT.2 16 j
            have A27 : ∀ j, 0 ≤ τ13.2.1 27 j ∧ τ13.2.1 27 j ≤ 90000 := fun j => hT.2 27 j
            have A28 : ∀ j, 0 ≤ τ13.2.1 28 j ∧ τ13.2.1 28 j ≤ 60 := fun j => hT.2 28 j
            have A29 : ∀ j, 0 ≤ τ13.2.1 29 j ∧ τ13.2.1 29 j ≤ 1499 := fun j => hT.2 29 j
            have A30 : ∀ j, 0 ≤ τ13.2.1 30 j ∧ τ13.2.1 30 j ≤ 20000 := fun j => hT.2 30 j
            have A31 : ∀ j, 0 ≤ τ13.2.1 31 j ∧ τ13.2.1 31 j ≤ 20000 := fun j => hT.2 31 j
            have A32 : ∀ j, 0 ≤ τ13.2.1 32 j ∧ τ13.2.1 32 j ≤ 999999 := fun j => hT.2 32 j
            have A33 : ∀ j, 0 ≤ τ13.2.1 33 j ∧ τ13.2.1 33 j ≤ 20000 := fun j => hT.2 33 j
            have A34 : ∀ j, 0 ≤ τ13.2.1 34 j ∧ τ13.2.1 34 j ≤ 20000 := fun j => hT.2 34 j
            have A35 : ∀ j, 0 ≤ τ13.2.1 35 j ∧ τ13.2.1 35 j ≤ 1499 := fun j => hT.2 35 j
            have A36 : ∀ j, 0 ≤ τ13.2.1 36 j ∧ τ13.2.1 36 j ≤ 20000 := fun j => hT.2 36 j
            have A37 : ∀ j, 0 ≤ τ13.2.1 37 j ∧ τ13.2.1 37 j ≤ 19999 := fun j => hT.2 37 j
            have A55 : ∀ j, 0 ≤ τ13.2.1 55 j ∧ τ13.2.1 55 j ≤ 19999 := fun j => hT.2 55 j
            have A57 : ∀ j, 0 ≤ τ13.2.1 57 j ∧ τ13.2.1 57 j ≤ 20000 := fun j => hT.2 57 j
            have A59 : ∀ j, 0 ≤ τ13.2.1 59 j ∧ τ13.2.1 59 j ≤ 30000 := fun j => hT.2 59 j
            have A62 : ∀ j, (-20000) ≤ τ13.2.1 62 j ∧ τ13.2.1 62 j ≤ 19999 := fun j => hT.2 62 j
            have A66 : ∀ j, 0 ≤ τ13.2.1 66 j ∧ τ13.2.1 66 j ≤ 4000 := fun j => hT.2 66 j
            have v6 : 0 ≤ τ13.1 6 ∧ τ13.1 6 ≤ 30000 := hT.1 6
            have v7 : 0 ≤ τ13.1 7 ∧ τ13.1 7 ≤ 1500 := hT.1 7
            have v13 : 0 ≤ τ13.1 13 ∧ τ13.1 13 ≤ 90000 := hT.1 13
            have v14 : 0 ≤ τ13.1 14 ∧ τ13.1 14 ≤ 20000 := hT.1 14
            have v15 : 0 ≤ τ13.1 15 ∧ τ13.1 15 ≤ 20000 := hT.1 15
            have v41 : 0 ≤ τ13.1 41 ∧ τ13.1 41 ≤ 20001 := hT.1 41
            have v43 : 0 ≤ τ13.1 43 ∧ τ13.1 43 ≤ 4000 := hT.1 43
            have v44 : 0 ≤ τ13.1 44 ∧ τ13.1 44 ≤ 20000 := hT.1 44
            refine ⟨fun c14 => ?_, fun c14 => ?_⟩
            ·
              refine ⟨fun c15 => ?_, fun c15 => ?_⟩
              ·
                refine ⟨(⟨by (first | omega | (simp only [st_s] <;> omega) | assumption | omega | fail), by (first | omega | (simp only [st_s] <;> omega) | assumption | omega | fail)⟩ : rg (u1_9 - x8)), ?_⟩
                refine h115 _ _ _ _ ?_
                refine ⟨(show 0 ≤ (u1_9 - x8) ∧ (u1_9 - x8) < 20000 from by (first | omega | (simp only [st_s] <;> omega) | assumption | omega | fail)), ?_⟩
                replace hT := cT_a (k := 66) (j := (u1_9 - x8)) hT (show (0 : Int) ≤ (τ_9.1 43) ∧ (τ_9.1 43) ≤ 4000 from by (first | omega | (simp only [st_s] <;> omega) | assumption | omega | fail))
                refine ⟨(⟨by (first | omega | (simp only [st_s] <;> omega) | assumption | omega | fail), by (first | omega | (simp only [st_s] <;> omega) | assumption | omega | fail)⟩ : rg ((u1_9 - x8) + 1)), ?_⟩
                refine ⟨(⟨by (first | omega | (simp only [st_s] <;> omega) | assumption | omega | fail), by (first | omega | (simp only [st_s] <;> omega) | assumption | omega | fail)⟩ : rg (u2_9 + 1)), ?_⟩
                exact ih_9 _ _ _ (show (20002 - (u2_9 + 1) : Int) < ((m_9 : Nat) : Int) from by ((first | omega | (simp only [st_s] <;> omega) | assumption | omega | fail))) hT (show τ13.1 6 = σ.1 6 from by first | exact W6 | omega) (show τ13.1 7 = σ.1 7 from by first | exact W7 | omega) (show τ13.1 13 = σ.1 13 from by first | exact W13 | omega) (show τ13.1 14 = σ.1 14 from by first | exact W14 | omega) (show τ13.1 15 = σ.1 15 from by first | exact W15 | omega) (show τ13.1 41 = σ.1 41 from by first | exact W41 | omega) (show τ13.1 44 = σ.1 44 from by first | exact W44 | omega) G10 G13 G14 G15 G16 G27 G28 G29 G30 G31 G32 G33 G34 G35 G36 G37 G55 G62 (show 0 ≤ (u2_9 + 1) from by (first | omega | (simp only [st_s] <;> omega) | assumption | omega | fail)) (show (u2_9 + 1) ≤ 20001 from by (first | omega | (simp only [st_s] <;> omega) | assumption | omega | fail)) (show 0 ≤ ((u1_9 - x8) + 1) from by (first | omega | (simp only [st_s] <;> omega) | assumption | omega | fail)) (show ((u1_9 - x8) + 1) ≤ (u2_9 + 1) from by (first | omega | (simp only [st_s] <;> omega) | assumption | omega | fail)) (show (u2_9 + 1) ≤ (τ13.1 43) from by (first | omega | (simp only [st_s] <;> omega) | assumption | omega | fail)) (show J_nf (u2_9 + 1) (τ13.1 44) (τ13.1 43) (τ13.2.1 62) (τ13.2.1 55) (τ13.2.1 36) (τ13.2.1 59) (τ13.2.1 57) from by (first | (intro m a b; exfalso; omega) | (rw [w44_τ13, g62_τ13, g55_τ13, g36_τ13, g59_τ13, g57_τ13]; exact J_nf_k nfx (by omega) (by rw [← e_x4]; first | exact Or.inl (by omega) | (refine Or.inr ?_; omega) | (refine Or.inr ?_; rw [G36, W44]; omega))) | (rw [w44_τ_115, w43_τ_115, g62_τ_115, g55_τ_115, g36_τ_115, g59_τ_115, g57_τ_115, w44_τ13, g62_τ13, g55_τ13, g36_τ13, g59_τ13, g57_τ13, show x22 = x20 from by omega]; exact J_nf_s nfx (by omega) (by omega) (fun _ => by rw [← e_x4, e_x20, g55_τ13])) | fail)) (show ∀ p : Int, 0 ≤ p → p < ((u1_9 - x8) + 1) → (st (τ13.2.1 66) (u1_9 - x8) (τ_9.1 43)) p ≤ (τ13.1 43) from by (first | (intro p a b; exfalso; omega) | (intro p a b; by_cases z : p = u1_9 - 0; (rw [show p = u1_9 - 0 from z, st_s]; omega); (rw [st_n _ _ z, g66_τ13]; have w := i9_7 p a (by omega); omega)) | (intro p a b; by_cases z : p = u1_9 - x8; (rw [z, st_s]; omega); (rw [st_n _ _ z, g66_τ13]; have w := i9_7 p a (by omega); omega)) | (intro p a b; by_cases z : p = u1_9 - x8; (rw [z, st_s]; omega); (rw [st_n _ _ z, g66_τ_115, g66_τ13]; have w := i9_7 p a (by omega); omega)) | fail))
              ·
                refine ⟨(show 0 ≤ (u1_9 - x8) ∧ (u1_9 - x8) < 20000 from by (first | omega | (simp only [st_s] <;> omega) | assumption | omega | fail)), ?_⟩
                intro x18 r_x18 e_x18
                have b_x18 : 0 ≤ x18 ∧ x18 ≤ 4000 := by rw [e_x18]; exact hT.2 66 _
                have s18 := i9_7 (u1_9 - x8) (by omega) (by omega)
                rw [← g66_τ13, ← e_x18] at s18
                refine ⟨(show 0 ≤ x4 ∧ x4 < 20000 from by (first | omega | (simp only [st_s] <;> omega) | assumption | omega | fail)), ?_⟩
                intro x20 r_x20 e_x20
                have b_x20 : 0 ≤ x20 ∧ x20 ≤ 19999 := by rw [e_x20]; exact hT.2 55 _
                refine ⟨(show 0 ≤ x20 ∧ x20 < 20000 from by (first | omega | (simp only [st_s] <;> omega) | assumption | omega | fail)), ?_⟩
                replace hT := cT_a (k := 59) (j := x20) hT (show (0 : Int) ≤ x18 ∧ x18 ≤ 30000 from by (first | omega | (simp only [st_s] <;> omega) | assumption | omega | fail))
                intro x22 r_x22 e_x22
                have b_x22 : 0 ≤ x22 ∧ x22 ≤ 19999 := by rw [e_x22]; exact hT.2 55 _
                refine ⟨(show 0 ≤ x22 ∧ x22 < 20000 from by (first | omega | (simp only [st_s] <;> omega) | assumption | omega | fail)), ?_⟩
                replace hT := cT_a (k := 57) (j := x22) hT (show (0 : Int) ≤ (τ13.1 43) ∧ (τ13.1 43) ≤ 20000 from by (first | omega | (simp only [st_s] <;> omega) | assumption | omega | fail))
                obtain ⟨τ_115, e_τ_115⟩ : ∃ z : S0, z = s_a (s_a τ13 59 x20 x18) 57 x22 (τ13.1 43) := ⟨_, rfl⟩
                rw [← e_τ_115]
                replace hT : c_T τ_115 := by rw [e_τ_115]; exact hT
                have w6_τ_115 : τ_115.1 6 = τ13.1 6 := by rw [e_τ_115]; rfl
                have w7_τ_115 : τ_115.1 7 = τ13.1 7 := by rw [e_τ_115]; rfl
                have w13_τ_115 : τ_115.1 13 = τ13.1 13 := by rw [e_τ_115]; rfl
                have w14_τ_115 : τ_115.1 14 = τ13.1 14 := by rw [e_τ_115]; rfl
                have w15_τ_115 : τ_115.1 15 = τ13.1 15 := by rw [e_τ_115]; rfl
                have w41_τ_115 : τ_115.1 41 = τ13.1 41 := by rw [e_τ_115]; rfl
                have w43_τ_115 : τ_115.1 43 = τ13.1 43 := by rw [e_τ_115]; rfl
                have w44_τ_115 : τ_115.1 44 = τ13.1 44 := by rw [e_τ_115]; rfl
                have g10_τ_115 : τ_115.2.1 10 = τ13.2.1 10 := by rw [e_τ_115]; rfl
                have g13_τ_115 : τ_115.2.1 13 = τ13.2.1 13 := by rw [e_τ_115]; rfl
                have g14_τ_115 : τ_115.2.1 14 = τ13.2.1 14 := by rw [e_τ_115]; rfl
                have g15_τ_115 : τ_115.2.1 15 = τ13.2.1 15 := by rw [e_τ_115]; rfl
                have g16_τ_115 : τ_115.2.1 16 = τ13.2.1 16 := by rw [e_τ_115]; rfl
                have g27_τ_115 : τ_115.2.1 27 = τ13.2.1 27 := by rw [e_τ_115]; rfl
                have g28_τ_115 : τ_115.2.1 28 = τ13.2.1 28 := by rw [e_τ_115]; rfl
                have g29_τ_115 : τ_115.2.1 29 = τ13.2.1 29 := by rw [e_τ_115]; rfl
                have g30_τ_115 : τ_115.2.1 30 = τ13.2.1 30 := by rw [e_τ_115]; rfl
                have g31_τ_115 : τ_115.2.1 31 = τ13.2.1 31 := by rw [e_τ_115]; rfl
                have g32_τ_115 : τ_115.2.1 32 = τ13.2.1 32 := by rw [e_τ_115]; rfl
                have g33_τ_115 : τ_115.2.1 33 = τ13.2.1 33 := by rw [e_τ_115]; rfl
                have g34_τ_115 : τ_115.2.1 34 = τ13.2.1 34 := by rw [e_τ_115]; rfl
                have g35_τ_115 : τ_115.2.1 35 = τ13.2.1 35 := by rw [e_τ_115]; rfl
                have g36_τ_115 : τ_115.2.1 36 = τ13.2.1 36 := by rw [e_τ_115]; rfl
                have g37_τ_115 : τ_115.2.1 37 = τ13.2.1 37 := by rw [e_τ_115]; rfl
                have g55_τ_115 : τ_115.2.1 55 = τ13.2.1 55 := by rw [e_τ_115]; rfl
                have g57_τ_115 : τ_115.2.1 57 = (st (τ13.2.1 57) x22 (τ13.1 43)) := by rw [e_τ_115]; rfl
                have g59_τ_115 : τ_115.2.1 59 = (st (τ13.2.1 59) x20 x18) := by rw [e_τ_115]; rfl
                have g62_τ_115 : τ_115.2.1 62 = τ13.2.1 62 := by rw [e_τ_115]; rfl
                have g66_τ_115 : τ_115.2.1 66 = τ13.2.1 66 := by rw [e_τ_115]; rfl
                have W6 : τ_115.1 6 = σ.1 6 := by first | exact w6_τ_115.trans W6 | omega
                have W7 : τ_115.1 7 = σ.1 7 := by first | exact w7_τ_115.trans W7 | omega
                have W13 : τ_115.1 13 = σ.1 13 := by first | exact w13_τ_115.trans W13 | omega
                have W14 : τ_115.1 14 = σ.1 14 := by first | exact w14_τ_115.trans W14 | omega
                have W15 : τ_115.1 15 = σ.1 15 := by first | exact w15_τ_115.trans W15 | omega
                have W41 : τ_115.1 41 = σ.1 41 := by first | exact w41_τ_115.trans W41 | omega
                have W44 : τ_115.1 44 = σ.1 44 := by first | exact w44_τ_115.trans W44 | omega
                have G10 : τ_115.2.1 10 = σ.2.1 10 := (g10_τ_115).trans G10
                have G13 : τ_115.2.1 13 = σ.2.1 13 := (g13_τ_115).trans G13
                have G14 : τ_115.2.1 14 = σ.2.1 14 := (g14_τ_115).trans G14
                have G15 : τ_115.2.1 15 = σ.2.1 15 := (g15_τ_115).trans G15
                have G16 : τ_115.2.1 16 = σ.2.1 16 := (g16_τ_115).trans G16
                have G27 : τ_115.2.1 27 = σ.2.1 27 := (g27_τ_115).trans G27
                have G28 : τ_115.2.1 28 = σ.2.1 28 := (g28_τ_115).trans G28
                have G29 : τ_115.2.1 29 = σ.2.1 29 := (g29_τ_115).trans G29
                have G30 : τ_115.2.1 30 = σ.2.1 30 := (g30_τ_115).trans G30
                have G31 : τ_115.2.1 31 = σ.2.1 31 := (g31_τ_115).trans G31
                have G32 : τ_115.2.1 32 = σ.2.1 32 := (g32_τ_115).trans G32
                have G33 : τ_115.2.1 33 = σ.2.1 33 := (g33_τ_115).trans G33
                have G34 : τ_115.2.1 34 = σ.2.1 34 := (g34_τ_115).trans G34
                have G35 : τ_115.2.1 35 = σ.2.1 35 := (g35_τ_115).trans G35
                have G36 : τ_115.2.1 36 = σ.2.1 36 := (g36_τ_115).trans G36
                have G37 : τ_115.2.1 37 = σ.2.1 37 := (g37_τ_115).trans G37
                have G55 : τ_115.2.1 55 = σ.2.1 55 := (g55_τ_115).trans G55
                have G62 : τ_115.2.1 62 = σ.2.1 62 := (g62_τ_115).trans G62
                have CJ : J_all (τ_115.1 7) (τ_115.1 6) (τ_115.1 13) (τ_115.1 14) (τ_115.1 15) (τ_115.2.1 13) (τ_115.2.1 14) (τ_115.2.1 15) (τ_115.2.1 16) (τ_115.2.1 10) (τ_115.2.1 27) (τ_115.2.1 28) (τ_115.2.1 29) (τ_115.2.1 30) (τ_115.2.1 31) (τ_115.2.1 32) (τ_115.2.1 33) (τ_115.2.1 34) (τ_115.2.1 35) (τ_115.2.1 36) (τ_115.2.1 37) := by rw [show (J_all (τ_115.1 7) (τ_115.1 6) (τ_115.1 13) (τ_115.1 14) (τ_115.1 15) (τ_115.2.1 13) (τ_115.2.1 14) (τ_115.2.1 15) (τ_115.2.1 16) (τ_115.2.1 10) (τ_115.2.1 27) (τ_115.2.1 28) (τ_115.2.1 29) (τ_115.2.1 30) (τ_115.2.1 31) (τ_115.2.1 32) (τ_115.2.1 33) (τ_115.2.1 34) (τ_115.2.1 35) (τ_115.2.1 36) (τ_115.2.1 37)) = (J_all (τ13.1 7) (τ13.1 6) (τ13.1 13) (τ13.1 14) (τ13.1 15) (τ13.2.1 13) (τ13.2.1 14) (τ13.2.1 15) (τ13.2.1 16) (τ13.2.1 10) (τ13.2.1 27) (τ13.2.1 28) (τ13.2.1 29) (τ13.2.1 30) (τ13.2.1 31) (τ13.2.1 32) (τ13.2.1 33) (τ13.2.1 34) (τ13.2.1 35) (τ13.2.1 36) (τ13.2.1 37)) from by rw [w6_τ_115, w7_τ_115, w13_τ_115, w14_τ_115, w15_τ_115, g10_τ_115, g13_τ_115, g14_τ_115, g15_τ_115, g16_τ_115, g27_τ_115, g28_τ_115, g29_τ_115, g30_τ_115, g31_τ_115, g32_τ_115, g33_τ_115, g34_τ_115, g35_τ_115, g36_τ_115, g37_τ_115]]; exact CJ
                have TR : J_tr (τ_115.1 41) ((τ_115.1 15) - 1 - (τ_115.1 44)) (τ_115.1 44) (τ_115.2.1 62) (τ_115.2.1 55) (τ_115.2.1 36) := by rw [show (J_tr (τ_115.1 41) ((τ_115.1 15) - 1 - (τ_115.1 44)) (τ_115.1 44) (τ_115.2.1 62) (τ_115.2.1 55) (τ_115.2.1 36)) = (J_tr (τ13.1 41) ((τ13.1 15) - 1 - (τ13.1 44)) (τ13.1 44) (τ13.2.1 62) (τ13.2.1 55) (τ13.2.1 36)) from by rw [w15_τ_115, w41_τ_115, w44_τ_115, g36_τ_115, g55_τ_115, g62_τ_115]]; exact TR
                have A10 : ∀ j, (-1) ≤ τ_115.2.1 10 j ∧ τ_115.2.1 10 j ≤ 99 := fun j => hT.2 10 j
                have A13 : ∀ j, 0 ≤ τ_115.2.1 13 j ∧ τ_115.2.1 13 j ≤ 4 := fun j => hT.2 13 j
                have A14 : ∀ j, 0 ≤ τ_115.2.1 14 j ∧ τ_115.2.1 14 j ≤ 30000 := fun j => hT.2 14 j
                have A15 : ∀ j, 0 ≤ τ_115.2.1 15 j ∧ τ_115.2.1 15 j ≤ 999 := fun j => hT.2 15 j
                have A16 : ∀ j, (-1) ≤ τ_115.2.1 16 j ∧ τ_115.2.1 16 j ≤ 1499 := fun j => hT.2 16 j
                have A27 : ∀ j, 0 ≤ τ_115.2.1 27 j ∧ τ_115.2.1 27 j ≤ 90000 := fun j => hT.2 27 j
                have A28 : ∀ j, 0 ≤ τ_115.2.1 28 j ∧ τ_115.2.1 28 j ≤ 60 := fun j => hT.2 28 j
                have A29 : ∀ j, 0 ≤ τ_115.2.1 29 j ∧ τ_115.2.1 29 j ≤ 1499 := fun j => hT.2 29 j
                have A30 : ∀ j, 0 ≤ τ_115.2.1 30 j ∧ τ_115.2.1 30 j ≤ 20000 := fun j => hT.2 30 j
                have A31 : ∀ j, 0 ≤ τ_115.2.1 31 j ∧ τ_115.2.1 31 j ≤ 20000 := fun j => hT.2 31 j
                have A32 : ∀ j, 0 ≤ τ_115.2.1 32 j ∧ τ_115.2.1 32 j ≤ 999999 := fun j => hT.2 32 j
                have A33 : ∀ j, 0 ≤ τ_115.2.1 33 j ∧ τ_115.2.1 33 j ≤ 20000 := fun j => hT.2 33 j
                have A34 : ∀ j, 0 ≤ τ_115.2.1 34 j ∧ τ_115.2.1 34 j ≤ 20000 := fun j => hT.2 34 j
                have A35 : ∀ j, 0 ≤ τ_115.2.1 35 j ∧ τ_115.2.1 35 j ≤ 1499 := fun j => hT.2 35 j
                have A36 : ∀ j, 0 ≤ τ_115.2.1 36 j ∧ τ_115.2.1 36 j ≤ 20000 := fun j => hT.2 36 j
                have A37 : ∀ j, 0 ≤ τ_115.2.1 37 j ∧ τ_115.2.1 37 j ≤ 19999 := fun j => hT.2 37 j
                have A55 : ∀ j, 0 ≤ τ_115.2.1 55 j ∧ τ_115.2.1 55 j ≤ 19999 := fun j => hT.2 55 j
                have A57 : ∀ j, 0 ≤ τ_115.2.1 57 j ∧ τ_115.2.1 57 j ≤ 20000 := fun j => hT.2 57 j
                have A59 : ∀ j, 0 ≤ τ_115.2.1 59 j ∧ τ_115.2.1 59 j ≤ 30000 := fun j => hT.2 59 j
                have A62 : ∀ j, (-20000) ≤ τ_115.2.1 62 j ∧ τ_115.2.1 62 j ≤ 19999 := fun j => hT.2 62 j
                have A66 : ∀ j, 0 ≤ τ_115.2.1 66 j ∧ τ_115.2.1 66 j ≤ 4000 := fun j => hT.2 66 j
                have v6 : 0 ≤ τ_115.1 6 ∧ τ_115.1 6 ≤ 30000 := hT.1 6
                have v7 : 0 ≤ τ_115.1 7 ∧ τ_115.1 7 ≤ 1500 := hT.1 7
                have v13 : 0 ≤ τ_115.1 13 ∧ τ_115.1 13 ≤ 90000 := hT.1 13
                have v14 : 0 ≤ τ_115.1 14 ∧ τ_115.1 14 ≤ 20000 := hT.1 14
                have v15 : 0 ≤ τ_115.1 15 ∧ τ_115.1 15 ≤ 20000 := hT.1 15
                have v41 : 0 ≤ τ_115.1 41 ∧ τ_115.1 41 ≤ 20001 := hT.1 41
                have v43 : 0 ≤ τ_115.1 43 ∧ τ_115.1 43 ≤ 4000 := hT.1 43
                have v44 : 0 ≤ τ_115.1 44 ∧ τ_115.1 44 ≤ 20000 := hT.1 44
                refine h115 _ _ _ _ ?_
                refine ⟨(show 0 ≤ (u1_9 - x8) ∧ (u1_9 - x8) < 20000 from by (first | omega | (simp only [st_s] <;> omega) | assumption | omega | fail)), ?_⟩
                replace hT := cT_a (k := 66) (j := (u1_9 - x8)) hT (show (0 : Int) ≤ x18 ∧ x18 ≤ 4000 from by (first | omega | (simp only [st_s] <;> omega) | assumption | omega | fail))
                refine ⟨(⟨by (first | omega | (simp only [st_s] <;> omega) | assumption | omega | fail), by (first | omega | (simp only [st_s] <;> omega) | assumption | omega | fail)⟩ : rg ((u1_9 - x8) + 1)), ?_⟩
                refine ⟨(⟨by (first | omega | (simp only [st_s] <;> omega) | assumption | omega | fail), by (first | omega | (simp only [st_s] <;> omega) | assumption | omega | fail)⟩ : rg (u2_9 + 1)), ?_⟩
                exact ih_9 _ _ _ (show (20002 - (u2_9 + 1) : Int) < ((m_9 : Nat) : Int) from by ((first | omega | (simp only [st_s] <;> omega) | assumption | omega | fail))) hT (show τ_115.1 6 = σ.1 6 from by first | exact W6 | omega) (show τ_115.1 7 = σ.1 7 from by first | exact W7 | omega) (show τ_115.1 13 = σ.1 13 from by first | exact W13 | omega) (show τ_115.1 14 = σ.1 14 from by first | exact W14 | omega) (show τ_115.1 15 = σ.1 15 from by first | exact W15 | omega) (show τ_115.1 41 = σ.1 41 from by first | exact W41 | omega) (show τ_115.1 44 = σ.1 44 from by first | exact W44 | omega) G10 G13 G14 G15 G16 G27 G28 G29 G30 G31 G32 G33 G34 G35 G36 G37 G55 G62 (show 0 ≤ (u2_9 + 1) from by (first | omega | (simp only [st_s] <;> omega) | assumption | omega | fail)) (show (u2_9 + 1) ≤ 20001 from by (first | omega | (simp only [st_s] <;> omega) | assumption | omega | fail)) (show 0 ≤ ((u1_9 - x8) + 1) from by (first | omega | (simp only [st_s] <;> omega) | assumption | omega | fail)) (show ((u1_9 - x8) + 1) ≤ (u2_9 + 1) from by (first | omega | (simp only [st_s] <;> omega) | assumption | omega | fail)) (show (u2_9 + 1) ≤ (τ_115.1 43) from by (first | omega | (simp only [st_s] <;> omega) | assumption | omega | fail)) (show J_nf (u2_9 + 1) (τ_115.1 44) (τ_115.1 43) (τ_115.2.1 62) (τ_115.2.1 55) (τ_115.2.1 36) (τ_115.2.1 59) (τ_115.2.1 57) from by (first | (intro m a b; exfalso; omega) | (rw [w44_τ13, g62_τ13, g55_τ13, g36_τ13, g59_τ13, g57_τ13]; exact J_nf_k nfx (by omega) (by rw [← e_x4]; first | exact Or.inl (by omega) | (refine Or.inr ?_; omega) | (refine Or.inr ?_; rw [G36, W44]; omega))) | (rw [w44_τ_115, w43_τ_115, g62_τ_115, g55_τ_115, g36_τ_115, g59_τ_115, g57_τ_115, w44_τ13, g62_τ13, g55_τ13, g36_τ13, g59_τ13, g57_τ13, show x22 = x20 from by omega]; exact J_nf_s nfx (by omega) (by omega) (fun _ => by rw [← e_x4, e_x20, g55_τ13])) | fail)) (show ∀ p : Int, 0 ≤ p → p < ((u1_9 - x8) + 1) → (st (τ_115.2.1 66) (u1_9 - x8) x18) p ≤ (τ_115.1 43) from by (first | (intro p a b; exfalso; omega) | (intro p a b; by_cases z : p = u1_9 - 0; (rw [show p = u1_9 - 0 from z, st_s]; omega); (rw [st_n _ _ z, g66_τ13]; have w := i9_7 p a (by omega); omega)) | (intro p a b; by_cases z : p = u1_9 - x8; (rw [z, st_s]; omega); (rw [st_n _ _ z, g66_τ13]; have w := i9_7 p a (by omega); omega)) | (intro p a b; by_cases z : p = u1_9 - x8; (rw [z, st_s]; omega); (rw [st_n _ _ z, g66_τ_115, g66_τ13]; have w := i9_7 p a (by omega); omega)) | fail))
            ·
              exact ⟨hT, (show 0 ≤ 0 ∧ 0 ≤ 1 from by (first | omega | (simp only [st_s] <;> omega) | assumption | omega | fail))⟩
        ·
          refine h51 _ _ _ _ _ _ ?_
          refine ⟨fun c10 => ?_, fun c10 => ?_⟩
          ·
            exact ⟨hT, (show 0 ≤ 0 ∧ 0 ≤ 1 from by (first | omega | (simp only [st_s] <;> omega) | assumption | omega | fail))⟩
          ·
            have nfx := i9_6
            have rf : x4 < 0 → τ_9.2.1 59 (-1 - x4) < τ_9.2.1 57 (-1 - x4) ∧ τ_9.2.1 57 (-1 - x4) ≤ τ_9.1 43 := by intro z; rcases tr with q | ⟨q, m, m0, m1, m2, m3, m4, m5⟩; (exfalso; omega); (have w := i9_6 m m0 m1 (by rw [G62]; exact m2) (by rw [G62, G36, W44]; exact m4); rw [G55, G62, m5, ← G62, ← e_x4] at w; exact w)
            refine ⟨_, K_X4_fillIn hT (show -20000 ≤ x4 from by (first | omega | (simp only [st_s] <;> omega) | assumption | omega | fail)) (show x4 ≤ (τ_9.1 15) - 1 - (τ_9.1 44) from by (first | omega | (simp only [st_s] <;> omega) | assumption | omega | fail)) (show x4 < 0 → τ_9.2.1 59 (-1 - x4) < τ_9.2.1 57 (-1 - x4) ∧ τ_9.2.1 57 (-1 - x4) ≤ (τ_9.1 43) from by exact rf), ?_⟩
            intro x12 τ13 r_x12 hn_τ13 hf_τ13 hq
            obtain ⟨hT, q11_1, q11_2⟩ := hq
            replace q11_1 : 0 ≤ x12 ∧ x12 ≤ 1 := q11_1
            replace q11_2 : ¬ x12 = 0 → (τ_9.1 43) < (τ13.1 43) := q11_2
            have w6_τ13 : τ13.1 6 = τ_9.1 6 := hf_τ13.1 6 (by decide)
            have w7_τ13 : τ13.1 7 = τ_9.1 7 := hf_τ13.1 7 (by decide)
            have w13_τ13 : τ13.1 13 = τ_9.1 13 := hf_τ13.1 13 (by decide)
            have w14_τ13 : τ13.1 14 = τ_9.1 14 := hf_τ13.1 14 (by decide)
            have w15_τ13 : τ13.1 15 = τ_9.1 15 := hf_τ13.1 15 (by decide)
            have w41_τ13 : τ13.1 41 = τ_9.1 41 := hf_τ13.1 41 (by decide)
            have w44_τ13 : τ13.1 44 = τ_9.1 44 := hf_τ13.1 44 (by decide)
            have g10_τ13 : τ13.2.1 10 = τ_9.2.1 10 := hf_τ13.2.1 10 (by decide)
            have g13_τ13 : τ13.2.1 13 = τ_9.2.1 13 := hf_τ13.2.1 13 (by decide)
            have g14_τ13 : τ13.2.1 14 = τ_9.2.1 14 := hf_τ13.2.1 14 (by decide)
            have g15_τ13 : τ13.2.1 15 = τ_9.2.1 15 := hf_τ13.2.1 15 (by decide)
            have g16_τ13 : τ13.2.1 16 = τ_9.2.1 16 := hf_τ13.2.1 16 (by decide)
            have g27_τ13 : τ13.2.1 27 = τ_9.2.1 27 := hf_τ13.2.1 27 (by decide)
            have g28_τ13 : τ13.2.1 28 = τ_9.2.1 28 := hf_τ13.2.1 28 (by decide)
            have g29_τ13 : τ13.2.1 29 = τ_9.2.1 29 := hf_τ13.2.1 29 (by decide)
            have g30_τ13 : τ13.2.1 30 = τ_9.2.1 30 := hf_τ13.2.1 30 (by decide)
            have g31_τ13 : τ13.2.1 31 = τ_9.2.1 31 := hf_τ13.2.1 31 (by decide)
            have g32_τ13 : τ13.2.1 32 = τ_9.2.1 32 := hf_τ13.2.1 32 (by decide)
            have g33_τ13 : τ13.2.1 33 = τ_9.2.1 33 := hf_τ13.2.1 33 (by decide)
            have g34_τ13 : τ13.2.1 34 = τ_9.2.1 34 := hf_τ13.2.1 34 (by decide)
            have g35_τ13 : τ13.2.1 35 = τ_9.2.1 35 := hf_τ13.2.1 35 (by decide)
            have g36_τ13 : τ13.2.1 36 = τ_9.2.1 36 := hf_τ13.2.1 36 (by decide)
            have g37_τ13 : τ13.2.1 37 = τ_9.2.1 37 := hf_τ13.2.1 37 (by decide)
            have g55_τ13 : τ13.2.1 55 = τ_9.2.1 55 := hf_τ13.2.1 55 (by decide)
            have g57_τ13 : τ13.2.1 57 = τ_9.2.1 57 := hf_τ13.2.1 57 (by decide)
            have g59_τ13 : τ13.2.1 59 = τ_9.2.1 59 := hf_τ13.2.1 59 (by decide)
            have g62_τ13 : τ13.2.1 62 = τ_9.2.1 62 := hf_τ13.2.1 62 (by decide)
            have g66_τ13 : τ13.2.1 66 = τ_9.2.1 66 := hf_τ13.2.1 66 (by decide)
            have W6 : τ13.1 6 = σ.1 6 := by first | exact w6_τ13.trans W6 | omega
            have W7 : τ13.1 7 = σ.1 7 := by first | exact w7_τ13.trans W7 | omega
            have W13 : τ13.1 13 = σ.1 13 := by first | exact w13_τ13.trans W13 | omega
            have W14 : τ13.1 14 = σ.1 14 := by first | exact w14_τ13.trans W14 | omega
            have W15 : τ13.1 15 = σ.1 15 := by first | exact w15_τ13.trans W15 | omega
            have W41 : τ13.1 41 = σ.1 41 := by first | exact w41_τ13.trans W41 | omega
            have W44 : τ13.1 44 = σ.1 44 := by first | exact w44_τ13.trans W44 | omega
            have G10 : τ13.2.1 10 = σ.2.1 10 := (g10_τ13).trans G10
            have G13 : τ13.2.1 13 = σ.2.1 13 := (g13_τ13).trans G13
            have G14 : τ13.2.1 14 = σ.2.1 14 := (g14_τ13).trans G14
            have G15 : τ13.2.1 15 = σ.2.1 15 := (g15_τ13).trans G15
            have G16 : τ13.2.1 16 = σ.2.1 16 := (g16_τ13).trans G16
            have G27 : τ13.2.1 27 = σ.2.1 27 := (g27_τ13).trans G27
            have G28 : τ13.2.1 28 = σ.2.1 28 := (g28_τ13).trans G28
            have G29 : τ13.2.1 29 = σ.2.1 29 := (g29_τ13).trans G29
            have G30 : τ13.2.1 30 = σ.2.1 30 := (g30_τ13).trans G30
            have G31 : τ13.2.1 31 = σ.2.1 31 := (g31_τ13).trans G31
            have G32 : τ13.2.1 32 = σ.2.1 32 := (g32_τ13).trans G32
            have G33 : τ13.2.1 33 = σ.2.1 33 := (g33_τ13).trans G33
            have G34 : τ13.2.1 34 = σ.2.1 34 := (g34_τ13).trans G34
            have G35 : τ13.2.1 35 = σ.2.1 35 := (g35_τ13).trans G35
            have G36 : τ13.2.1 36 = σ.2.1 36 := (g36_τ13).trans G36
            have G37 : τ13.2.1 37 = σ.2.1 37 := (g37_τ13).trans G37
            have G55 : τ13.2.1 55 = σ.2.1 55 := (g55_τ13).trans G55
            have G62 : τ13.2.1 62 = σ.2.1 62 := (g62_τ13).trans G62
            have CJ : J_all (τ13.1 7) (τ13.1 6) (τ13.1 13) (τ13.1 14) (τ13.1 15) (τ13.2.1 13) (τ13.2.1 14) (τ13.2.1 15) (τ13.2.1 16) (τ13.2.1 10) (τ13.2.1 27) (τ13.2.1 28) (τ13.2.1 29) (τ13.2.1 30) (τ13.2.1 31) (τ13.2.1 32) (τ13.2.1 33) (τ13.2.1 34) (τ13.2.1 35) (τ13.2.1 36) (τ13.2.1 37) := by rw [show (J_all (τ13.1 7) (τ13.1 6) (τ13.1 13) (τ13.1 14) (τ13.1 15) (τ13.2.1 13) (τ13.2.1 14) (τ13.2.1 15) (τ13.2.1 16) (τ13.2.1 10) (τ13.2.1 27) (τ13.2.1 28) (τ13.2.1 29) (τ13.2.1 30) (τ13.2.1 31) (τ13.2.1 32) (τ13.2.1 33) (τ13.2.1 34) (τ13.2.1 35) (τ13.2.1 36) (τ13.2.1 37)) = (J_all (τ_9.1 7) (τ_9.1 6) (τ_9.1 13) (τ_9.1 14) (τ_9.1 15) (τ_9.2.1 13) (τ_9.2.1 14) (τ_9.2.1 15) (τ_9.2.1 16) (τ_9.2.1 10) (τ_9.2.1 27) (τ_9.2.1 28) (τ_9.2.1 29) (τ_9.2.1 30) (τ_9.2.1 31) (τ_9.2.1 32) (τ_9.2.1 33) (τ_9.2.1 34) (τ_9.2.1 35) (τ_9.2.1 36) (τ_9.2.1 37)) from by rw [w6_τ13, w7_τ13, w13_τ13, w14_τ13, w15_τ13, g10_τ13, g13_τ13, g14_τ13, g15_τ13, g16_τ13, g27_τ13, g28_τ13, g29_τ13, g30_τ13, g31_τ13, g32_τ13, g33_τ13, g34_τ13, g35_τ13, g36_τ13, g37_τ13]]; exact CJ
            have TR : J_tr (τ13.1 41) ((τ13.1 15) - 1 - (τ13.1 44)) (τ13.1 44) (τ13.2.1 62) (τ13.2.1 55) (τ13.2.1 36) := by rw [show (J_tr (τ13.1 41) ((τ13.1 15) - 1 - (τ13.1 44)) (τ13.1 44) (τ13.2.1 62) (τ13.2.1 55) (τ13.2.1 36)) = (J_tr (τ_9.1 41) ((τ_9.1 15) - 1 - (τ_9.1 44)) (τ_9.1 44) (τ_9.2.1 62) (τ_9.2.1 55) (τ_9.2.1 36)) from by rw [w15_τ13, w41_τ13, w44_τ13, g36_τ13, g55_τ13, g62_τ13]]; exact TR
            have A10 : ∀ j, (-1) ≤ τ13.2.1 10 j ∧ τ13.2.1 10 j ≤ 99 := fun j => hT.2 10 j
            have A13 : ∀ j, 0 ≤ τ13.2.1 13 j ∧ τ13.2.1 13 j ≤ 4 := fun j => hT.2 13 j
            have A14 : ∀ j, 0 ≤ τ13.2.1 14 j ∧ τ13.2.1 14 j ≤ 30000 := fun j => hT.2 14 j
            have A15 : ∀ j, 0 ≤ τ13.2.1 15 j ∧ τ13.2.1 15 j ≤ 999 := fun j => hT.2 15 j
            have A16 : ∀ j, (-1) ≤ τ13.2.1 16 j ∧ τ13.2.1 16 j ≤ 1499 := fun j => hT.2 16 j
            have A27 : ∀ j, 0 ≤ τ13.2.1 27 j ∧ τ13.2.1 27 j ≤ 90000 := fun j => hT.2 27 j
            have A28 : ∀ j, 0 ≤ τ13.2.1 28 j ∧ τ13.2.1 28 j ≤ 60 := fun j => hT.2 28 j
            have A29 : ∀ j, 0 ≤ τ13.2.1 29 j ∧ τ13.2.1 29 j ≤ 1499 := fun j => hT.2 29 j
            have A30 : ∀ j, 0 ≤ τ13.2.1 30 j ∧ τ13.2.1 30 j ≤ 20000 := fun j => hT.2 30 j
            have A31 : ∀ j, 0 ≤ τ13.2.1 31 j ∧ τ13.2.1 31 j ≤ 20000 := fun j => hT.2 31 j
            have A32 : ∀ j, 0 ≤ τ13.2.1 32 j ∧ τ13.2.1 32 j ≤ 999999 := fun j => hT.2 32 j
            have A33 : ∀ j, 0 ≤ τ13.2.1 33 j ∧ τ13.2.1 33 j ≤ 20000 := fun j => hT.2 33 j
            have A34 : ∀ j, 0 ≤ τ13.2.1 34 j ∧ τ13.2.1 34 j ≤ 20000 := fun j => hT.2 34 j
            have A35 : ∀ j, 0 ≤ τ13.2.1 35 j ∧ τ13.2.1 35 j ≤ 1499 := fun j => hT.2 35 j
            have A36 : ∀ j, 0 ≤ τ13.2.1 36 j ∧ τ13.2.1 36 j ≤ 20000 := fun j => hT.2 36 j
            have A37 : ∀ j, 0 ≤ τ13.2.1 37 j ∧ τ13.2.1 37 j ≤ 19999 := fun j => hT.2 37 j
            have A55 : ∀ j, 0 ≤ τ13.2.1 55 j ∧ τ13.2.1 55 j ≤ 19999 := fun j => hT.2 55 j
            have A57 : ∀ j, 0 ≤ τ13.2.1 57 j ∧ τ13.2.1 57 j ≤ 20000 := fun j => hT.2 57 j
            have A59 : ∀ j, 0 ≤ τ13.2.1 59 j ∧ τ13.2.1 59 j ≤ 30000 := fun j => hT.2 59 j
            have A62 : ∀ j, (-20000) ≤ τ13.2.1 62 j ∧ τ13.2.1 62 j ≤ 19999 := fun j => hT.2 62 j
            have A66 : ∀ j, 0 ≤ τ13.2.1 66 j ∧ τ13.2.1 66 j ≤ 4000 := fun j => hT.2 66 j
            have v6 : 0 ≤ τ13.1 6 ∧ τ13.1 6 ≤ 30000 := hT.1 6
            have v7 : 0 ≤ τ13.1 7 ∧ τ13.1 7 ≤ 1500 := hT.1 7
            have v13 : 0 ≤ τ13.1 13 ∧ τ13.1 13 ≤ 90000 := hT.1 13
            have v14 : 0 ≤ τ13.1 14 ∧ τ13.1 14 ≤ 20000 := hT.1 14
            have v15 : 0 ≤ τ13.1 15 ∧ τ13.1 15 ≤ 20000 := hT.1 15
            have v41 : 0 ≤ τ13.1 41 ∧ τ13.1 41 ≤ 20001 := hT.1 41
            have v43 : 0 ≤ τ13.1 43 ∧ τ13.1 43 ≤ 4000 := hT.1 43
            have v44 : 0 ≤ τ13.1 44 ∧ τ13.1 44 ≤ 20000 := hT.1 44
            refine ⟨fun c14 => ?_, fun c14 => ?_⟩
            ·
              refine ⟨fun c15 => ?_, fun c15 => ?_⟩
              ·
                refine ⟨(⟨by (first | omega | (simp only [st_s] <;> omega) | assumption | omega | fail), by (first | omega | (simp only [st_s] <;> omega) | assumption | omega | fail)⟩ : rg (u1_9 - 0)), ?_⟩
                refine h115 _ _ _ _ ?_
                refine ⟨(show 0 ≤ (u1_9 - 0) ∧ (u1_9 - 0) < 20000 from by (first | omega | (simp only [st_s] <;> omega) | assumption | omega | fail)), ?_⟩
                replace hT := cT_a (k := 66) (j := (u1_9 - 0)) hT (show (0 : Int) ≤ (τ_9.1 43) ∧ (τ_9.1 43) ≤ 4000 from by (first | omega | (simp only [st_s] <;> omega) | assumption | omega | fail))
                refine ⟨(⟨by (first | omega | (simp only [st_s] <;> omega) | assumption | omega | fail), by (first | omega | (simp only [st_s] <;> omega) | assumption | omega | fail)⟩ : rg ((u1_9 - 0) + 1)), ?_⟩
                refine ⟨(⟨by (first | omega | (simp only [st_s] <;> omega) | assumption | omega | fail), by (first | omega | (simp only [st_s] <;> omega) | assumption | omega | fail)⟩ : rg (u2_9 + 1)), ?_⟩
                exact ih_9 _ _ _ (show (20002 - (u2_9 + 1) : Int) < ((m_9 : Nat) : Int) from by ((first | omega | (simp only [st_s] <;> omega) | assumption | omega | fail))) hT (show τ13.1 6 = σ.1 6 from by first | exact W6 | omega) (show τ13.1 7 = σ.1 7 from by first | exact W7 | omega) (show τ13.1 13 = σ.1 13 from by first | exact W13 | omega) (show τ13.1 14 = σ.1 14 from by first | exact W14 | omega) (show τ13.1 15 = σ.1 15 from by first | exact W15 | omega) (show τ13.1 41 = σ.1 41 from by first | exact W41 | omega) (show τ13.1 44 = σ.1 44 from by first | exact W44 | omega) G10 G13 G14 G15 G16 G27 G28 G29 G30 G31 G32 G33 G34 G35 G36 G37 G55 G62 (show 0 ≤ (u2_9 + 1) from by (first | omega | (simp only [st_s] <;> omega) | assumption | omega | fail)) (show (u2_9 + 1) ≤ 20001 from by (first | omega | (simp only [st_s] <;> omega) | assumption | omega | fail)) (show 0 ≤ ((u1_9 - 0) + 1) from by (first | omega | (simp only [st_s] <;> omega) | assumption | omega | fail)) (show ((u1_9 - 0) + 1) ≤ (u2_9 + 1) from by (first | omega | (simp only [st_s] <;> omega) | assumption | omega | fail)) (show (u2_9 + 1) ≤ (τ13.1 43) from by (first | omega | (simp only [st_s] <;> omega) | assumption | omega | fail)) (show J_nf (u2_9 + 1) (τ13.1 44) (τ13.1 43) (τ13.2.1 62) (τ13.2.1 55) (τ13.2.1 36) (τ13.2.1 59) (τ13.2.1 57) from by (first | (intro m a b; exfalso; omega) | (rw [w44_τ13, g62_τ13, g55_τ13, g36_τ13, g59_τ13, g57_τ13]; exact J_nf_k nfx (by omega) (by rw [← e_x4]; first | exact Or.inl (by omega) | (refine Or.inr ?_; omega) | (refine Or.inr ?_; rw [G36, W44]; omega))) | (rw [w44_τ_115, w43_τ_115, g62_τ_115, g55_τ_115, g36_τ_115, g59_τ_115, g57_τ_115, w44_τ13, g62_τ13, g55_τ13, g36_τ13, g59_τ13, g57_τ13, show x22 = x20 from by omega]; exact J_nf_s nfx (by omega) (by omega) (fun _ => by rw [← e_x4, e_x20, g55_τ13])) | fail)) (show ∀ p : Int, 0 ≤ p → p < ((u1_9 - 0) + 1) → (st (τ13.2.1 66) (u1_9 - 0) (τ_9.1 43)) p ≤ (τ13.1 43) from by (first | (intro p a b; exfalso; omega) | (intro p a b; by_cases z : p = u1_9 - 0; (rw [show p = u1_9 - 0 from z, st_s]; omega); (rw [st_n _ _ z, g66_τ13]; have w := i9_7 p a (by omega); omega)) | (intro p a b; by_cases z : p = u1_9 - x8; (rw [z, st_s]; omega); (rw [st_n _ _ z, g66_τ13]; have w := i9_7 p a (by omega); omega)) | (intro p a b; by_cases z : p = u1_9 - x8; (rw [z, st_s]; omega); (rw [st_n _ _ z, g66_τ_115, g66_τ13]; have w := i9_7 p a (by omega); omega)) | fail))
              ·
                refine ⟨(show 0 ≤ (u1_9 - 0) ∧ (u1_9 - 0) < 20000 from by (first | omega | (simp only [st_s] <;> omega) | assumption | omega | fail)), ?_⟩
                intro x18 r_x18 e_x18
                have b_x18 : 0 ≤ x18 ∧ x18 ≤ 4000 := by rw [e_x18]; exact hT.2 66 _
                have s18 := i9_7 (u1_9 - 0) (by omega) (by omega)
                rw [← g66_τ13, ← e_x18] at s18
                refine ⟨(show 0 ≤ x4 ∧ x4 < 20000 from by (first | omega | (simp only [st_s] <;> omega) | assumption | omega | fail)), ?_⟩
                intro x20 r_x20 e_x20
                have b_x20 : 0 ≤ x20 ∧ x20 ≤ 19999 := by rw [e_x20]; exact hT.2 55 _
                refine ⟨(show 0 ≤ x20 ∧ x20 < 20000 from by (first | omega | (simp only [st_s] <;> omega) | assumption | omega | fail)), ?_⟩
                replace hT := cT_a (k := 59) (j := x20) hT (show (0 : Int) ≤ x18 ∧ x18 ≤ 30000 from by (first | omega | (simp only [st_s] <;> omega) | assumption | omega | fail))
                intro x22 r_x22 e_x22
                have b_x22 : 0 ≤ x22 ∧ x22 ≤ 19999 := by rw [e_x22]; exact hT.2 55 _
                refine ⟨(show 0 ≤ x22 ∧ x22 < 20000 from by (first | omega | (simp only [st_s] <;> omega) | assumption | omega | fail)), ?_⟩
                replace hT := cT_a (k := 57) (j := x22) hT (show (0 : Int) ≤ (τ13.1 43) ∧ (τ13.1 43) ≤ 20000 from by (first | omega | (simp only [st_s] <;> omega) | assumption | omega | fail))
                obtain ⟨τ_115, e_τ_115⟩ : ∃ z : S0, z = s_a (s_a τ13 59 x20 x18) 57 x22 (τ13.1 43) := ⟨_, rfl⟩
                rw [← e_τ_115]
                replace hT : c_T τ_115 := by rw [e_τ_115]; exact hT
                have w6_τ_115 : τ_115.1 6 = τ13.1 6 := by rw [e_τ_115]; rfl
                have w7_τ_115 : τ_115.1 7 = τ13.1 7 := by rw [e_τ_115]; rfl
                have w13_τ_115 : τ_115.1 13 = τ13.1 13 := by rw [e_τ_115]; rfl
                have w14_τ_115 : τ_115.1 14 = τ13.1 14 := by rw [e_τ_115]; rfl
                have w15_τ_115 : τ_115.1 15 = τ13.1 15 := by rw [e_τ_115]; rfl
                have w41_τ_115 : τ_115.1 41 = τ13.1 41 := by rw [e_τ_115]; rfl
                have w43_τ_115 : τ_115.1 43 = τ13.1 43 := by rw [e_τ_115]; rfl
                have w44_τ_115 : τ_115.1 44 = τ13.1 44 := by rw [e_τ_115]; rfl
                have g10_τ_115 : τ_115.2.1 10 = τ13.2.1 10 := by rw [e_τ_115]; rfl
                have g13_τ_115 : τ_115.2.1 13 = τ13.2.1 13 := by rw [e_τ_115]; rfl
                have g14_τ_115 : τ_115.2.1 14 = τ13.2.1 14 := by rw [e_τ_115]; rfl
                have g15_τ_115 : τ_115.2.1 15 = τ13.2.1 15 := by rw [e_τ_115]; rfl
                have g16_τ_115 : τ_115.2.1 16 = τ13.2.1 16 := by rw [e_τ_115]; rfl
                have g27_τ_115 : τ_115.2.1 27 = τ13.2.1 27 := by rw [e_τ_115]; rfl
                have g28_τ_115 : τ_115.2.1 28 = τ13.2.1 28 := by rw [e_τ_115]; rfl
                have g29_τ_115 : τ_115.2.1 29 = τ13.2.1 29 := by rw [e_τ_115]; rfl
                have g30_τ_115 : τ_115.2.1 30 = τ13.2.1 30 := by rw [e_τ_115]; rfl
                have g31_τ_115 : τ_115.2.1 31 = τ13.2.1 31 := by rw [e_τ_115]; rfl
                have g32_τ_115 : τ_115.2.1 32 = τ13.2.1 32 := by rw [e_τ_115]; rfl
                have g33_τ_115 : τ_115.2.1 33 = τ13.2.1 33 := by rw [e_τ_115]; rfl
                have g34_τ_115 : τ_115.2.1 34 = τ13.2.1 34 := by rw [e_τ_115]; rfl
                have g35_τ_115 : τ_115.2.1 35 = τ13.2.1 35 := by rw [e_τ_115]; rfl
                have g36_τ_115 : τ_115.2.1 36 = τ13.2.1 36 := by rw [e_τ_115]; rfl
                have g37_τ_115 : τ_115.2.1 37 = τ13.2.1 37 := by rw [e_τ_115]; rfl
                have g55_τ_115 : τ_115.2.1 55 = τ13.2.1 55 := by rw [e_τ_115]; rfl
                have g57_τ_115 : τ_115.2.1 57 = (st (τ13.2.1 57) x22 (τ13.1 43)) := by rw [e_τ_115]; rfl
                have g59_τ_115 : τ_115.2.1 59 = (st (τ13.2.1 59) x20 x18) := by rw [e_τ_115]; rfl
                have g62_τ_115 : τ_115.2.1 62 = τ13.2.1 62 := by rw [e_τ_115]; rfl
                have g66_τ_115 : τ_115.2.1 66 = τ13.2.1 66 := by rw [e_τ_115]; rfl
                have W6 : τ_115.1 6 = σ.1 6 := by first | exact w6_τ_115.trans W6 | omega
                have W7 : τ_115.1 7 = σ.1 7 := by first | exact w7_τ_115.trans W7 | omega
                have W13 : τ_115.1 13 = σ.1 13 := by first | exact w13_τ_115.trans W13 | omega
                have W14 : τ_115.1 14 = σ.1 14 := by first | exact w14_τ_115.trans W14 | omega
                have W15 : τ_115.1 15 = σ.1 15 := by first | exact w15_τ_115.trans W15 | omega
                have W41 : τ_115.1 41 = σ.1 41 := by first | exact w41_τ_115.trans W41 | omega
                have W44 : τ_115.1 44 = σ.1 44 := by first | exact w44_τ_115.trans W44 | omega
                have G10 : τ_115.2.1 10 = σ.2.1 10 := (g10_τ_115).trans G10
                have G13 : τ_115.2.1 13 = σ.2.1 13 := (g13_τ_115).trans G13
                have G14 : τ_115.2.1 14 = σ.2.1 14 := (g14_τ_115).trans G14
                have G15 : τ_115.2.1 15 = σ.2.1 15 := (g15_τ_115).trans G15
                have G16 : τ_115.2.1 16 = σ.2.1 16 := (g16_τ_115).trans G16
                have G27 : τ_115.2.1 27 = σ.2.1 27 := (g27_τ_115).trans G27
                have G28 : τ_115.2.1 28 = σ.2.1 28 := (g28_τ_115).trans G28
                have G29 : τ_115.2.1 29 = σ.2.1 29 := (g29_τ_115).trans G29
                have G30 : τ_115.2.1 30 = σ.2.1 30 := (g30_τ_115).trans G30
                have G31 : τ_115.2.1 31 = σ.2.1 31 := (g31_τ_115).trans G31
                have G32 : τ_115.2.1 32 = σ.2.1 32 := (g32_τ_115).trans G32
                have G33 : τ_115.2.1 33 = σ.2.1 33 := (g33_τ_115).trans G33
                have G34 : τ_115.2.1 34 = σ.2.1 34 := (g34_τ_115).trans G34
                have G35 : τ_115.2.1 35 = σ.2.1 35 := (g35_τ_115).trans G35
                have G36 : τ_115.2.1 36 = σ.2.1 36 := (g36_τ_115).trans G36
                have G37 : τ_115.2.1 37 = σ.2.1 37 := (g37_τ_115).trans G37
                have G55 : τ_115.2.1 55 = σ.2.1 55 := (g55_τ_115).trans G55
                have G62 : τ_115.2.1 62 = σ.2.1 62 := (g62_τ_115).trans G62
                have CJ : J_all (τ_115.1 7) (τ_115.1 6) (τ_115.1 13) (τ_115.1 14) (τ_115.1 15) (τ_115.2.1 13) (τ_115.2.1 14) (τ_115.2.1 15) (τ_115.2.1 16) (τ_115.2.1 10) (τ_115.2.1 27) (τ_115.2.1 28) (τ_115.2.1 29) (τ_115.2.1 30) (τ_115.2.1 31) (τ_115.2.1 32) (τ_115.2.1 33) (τ_115.2.1 34) (τ_115.2.1 35) (τ_115.2.1 36) (τ_115.2.1 37) := by rw [show (J_all (τ_115.1 7) (τ_115.1 6) (τ_115.1 13) (τ_115.1 14) (τ_115.1 15) (τ_115.2.1 13) (τ_115.2.1 14) (τ_115.2.1 15) (τ_115.2.1 16) (τ_115.2.1 10) (τ_115.2.1 27) (τ_115.2.1 28) (τ_115.2.1 29) (τ_115.2.1 30) (τ_115.2.1 31) (τ_115.2.1 32) (τ_115.2.1 33) (τ_115.2.1 34) (τ_115.2.1 35) (τ_115.2.1 36) (τ_115.2.1 37)) = (J_all (τ13.1 7) (τ13.1 6) (τ13.1 13) (τ13.1 14) (τ13.1 15) (τ13.2.1 13) (τ13.2.1 14) (τ13.2.1 15) (τ13.2.1 16) (τ13.2.1 10) (τ13.2.1 27) (τ13.2.1 28) (τ13.2.1 29) (τ13.2.1 30) (τ13.2.1 31) (τ13.2.1 32) (τ13.2.1 33) (τ13.2.1 34) (τ13.2.1 35) (τ13.2.1 36) (τ13.2.1 37)) from by rw [w6_τ_115, w7_τ_115, w13_τ_115, w14_τ_115, w15_τ_115, g10_τ_115, g13_τ_115, g14_τ_115, g15_τ_115, g16_τ_115, g27_τ_115, g28_τ_115, g29_τ_115, g30_τ_115, g31_τ_115, g32_τ_115, g33_τ_115, g34_τ_115, g35_τ_115, g36_τ_115, g37_τ_115]]; exact CJ
                have TR : J_tr (τ_115.1 41) ((τ_115.1 15) - 1 - (τ_115.1 44)) (τ_115.1 44) (τ_115.2.1 62) (τ_115.2.1 55) (τ_115.2.1 36) := by rw [show (J_tr (τ_115.1 41) ((τ_115.1 15) - 1 - (τ_115.1 44)) (τ_115.1 44) (τ_115.2.1 62) (τ_115.2.1 55) (τ_115.2.1 36)) = (J_tr (τ13.1 41) ((τ13.1 15) - 1 - (τ13.1 44)) (τ13.1 44) (τ13.2.1 62) (τ13.2.1 55) (τ13.2.1 36)) from by rw [w15_τ_115, w41_τ_115, w44_τ_115, g36_τ_115, g55_τ_115, g62_τ_115]]; exact TR
                have A10 : ∀ j, (-1) ≤ τ_115.2.1 10 j ∧ τ_115.2.1 10 j ≤ 99 := fun j => hT.2 10 j
                have A13 : ∀ j, 0 ≤ τ_115.2.1 13 j ∧ τ_115.2.1 13 j ≤ 4 := fun j => hT.2 13 j
                have A14 : ∀ j, 0 ≤ τ_115.2.1 14 j ∧ τ_115.2.1 14 j ≤ 30000 := fun j => hT.2 14 j
                have A15 : ∀ j, 0 ≤ τ_115.2.1 15 j ∧ τ_115.2.1 15 j ≤ 999 := fun j => hT.2 15 j
                have A16 : ∀ j, (-1) ≤ τ_115.2.1 16 j ∧ τ_115.2.1 16 j ≤ 1499 := fun j => hT.2 16 j
                have A27 : ∀ j, 0 ≤ τ_115.2.1 27 j ∧ τ_115.2.1 27 j ≤ 90000 := fun j => hT.2 27 j
                have A28 : ∀ j, 0 ≤ τ_115.2.1 28 j ∧ τ_115.2.1 28 j ≤ 60 := fun j => hT.2 28 j
                have A29 : ∀ j, 0 ≤ τ_115.2.1 29 j ∧ τ_115.2.1 29 j ≤ 1499 := fun j => hT.2 29 j
                have A30 : ∀ j, 0 ≤ τ_115.2.1 30 j ∧ τ_115.2.1 30 j ≤ 20000 := fun j => hT.2 30 j
                have A31 : ∀ j, 0 ≤ τ_115.2.1 31 j ∧ τ_115.2.1 31 j ≤ 20000 := fun j => hT.2 31 j
                have A32 : ∀ j, 0 ≤ τ_115.2.1 32 j ∧ τ_115.2.1 32 j ≤ 999999 := fun j => hT.2 32 j
                have A33 : ∀ j, 0 ≤ τ_115.2.1 33 j ∧ τ_115.2.1 33 j ≤ 20000 := fun j => hT.2 33 j
                have A34 : ∀ j, 0 ≤ τ_115.2.1 34 j ∧ τ_115.2.1 34 j ≤ 20000 := fun j => hT.2 34 j
                have A35 : ∀ j, 0 ≤ τ_115.2.1 35 j ∧ τ_115.2.1 35 j ≤ 1499 := fun j => hT.2 35 j
                have A36 : ∀ j, 0 ≤ τ_115.2.1 36 j ∧ τ_115.2.1 36 j ≤ 20000 := fun j => hT.2 36 j
                have A37 : ∀ j, 0 ≤ τ_115.2.1 37 j ∧ τ_115.2.1 37 j ≤ 19999 := fun j => hT.2 37 j
                have A55 : ∀ j, 0 ≤ τ_115.2.1 55 j ∧ τ_115.2.1 55 j ≤ 19999 := fun j => hT.2 55 j
                have A57 : ∀ j, 0 ≤ τ_115.2.1 57 j ∧ τ_115.2.1 57 j ≤ 20000 := fun j => hT.2 57 j
                have A59 : ∀ j, 0 ≤ τ_115.2.1 59 j ∧ τ_115.2.1 59 j ≤ 30000 := fun j => hT.2 59 j
                have A62 : ∀ j, (-20000) ≤ τ_115.2.1 62 j ∧ τ_115.2.1 62 j ≤ 19999 := fun j => hT.2 62 j
                have A66 : ∀ j, 0 ≤ τ_115.2.1 66 j ∧ τ_115.2.1 66 j ≤ 4000 := fun j => hT.2 66 j
                have v6 : 0 ≤ τ_115.1 6 ∧ τ_115.1 6 ≤ 30000 := hT.1 6
                have v7 : 0 ≤ τ_115.1 7 ∧ τ_115.1 7 ≤ 1500 := hT.1 7
                have v13 : 0 ≤ τ_115.1 13 ∧ τ_115.1 13 ≤ 90000 := hT.1 13
                have v14 : 0 ≤ τ_115.1 14 ∧ τ_115.1 14 ≤ 20000 := hT.1 14
                have v15 : 0 ≤ τ_115.1 15 ∧ τ_115.1 15 ≤ 20000 := hT.1 15
                have v41 : 0 ≤ τ_115.1 41 ∧ τ_115.1 41 ≤ 20001 := hT.1 41
                have v43 : 0 ≤ τ_115.1 43 ∧ τ_115.1 43 ≤ 4000 := hT.1 43
                have v44 : 0 ≤ τ_115.1 44 ∧ τ_115.1 44 ≤ 20000 := hT.1 44
                refine h115 _ _ _ _ ?_
                refine ⟨(show 0 ≤ (u1_9 - 0) ∧ (u1_9 - 0) < 20000 from by (first | omega | (simp only [st_s] <;> omega) | assumption | omega | fail)), ?_⟩
                replace hT := cT_a (k := 66) (j := (u1_9 - 0)) hT (show (0 : Int) ≤ x18 ∧ x18 ≤ 4000 from by (first | omega | (simp only [st_s] <;> omega) | assumption | omega | fail))
                refine ⟨(⟨by (first | omega | (simp only [st_s] <;> omega) | assumption | omega | fail), by (first | omega | (simp only [st_s] <;> omega) | assumption | omega | fail)⟩ : rg ((u1_9 - 0) + 1)), ?_⟩
                refine ⟨(⟨by (first | omega | (simp only [st_s] <;> omega) | assumption | omega | fail), by (first | omega | (simp only [st_s] <;> omega) | assumption | omega | fail)⟩ : rg (u2_9 + 1)), ?_⟩
                exact ih_9 _ _ _ (show (20002 - (u2_9 + 1) : Int) < ((m_9 : Nat) : Int) from by ((first | omega | (simp only [st_s] <;> omega) | assumption | omega | fail))) hT (show τ_115.1 6 = σ.1 6 from by first | exact W6 | omega) (show τ_115.1 7 = σ.1 7 from by first | exact W7 | omega) (show τ_115.1 13 = σ.1 13 from by first | exact W13 | omega) (show τ_115.1 14 = σ.1 14 from by first | exact W14 | omega) (show τ_115.1 15 = σ.1 15 from by first | exact W15 | omega) (show τ_115.1 41 = σ.1 41 from by first | exact W41 | omega) (show τ_115.1 44 = σ.1 44 from by first | exact W44 | omega) G10 G13 G14 G15 G16 G27 G28 G29 G30 G31 G32 G33 G34 G35 G36 G37 G55 G62 (show 0 ≤ (u2_9 + 1) from by (first | omega | (simp only [st_s] <;> omega) | assumption | omega | fail)) (show (u2_9 + 1) ≤ 20001 from by (first | omega | (simp only [st_s] <;> omega) | assumption | omega | fail)) (show 0 ≤ ((u1_9 - 0) + 1) from by (first | omega | (simp only [st_s] <;> omega) | assumption | omega | fail)) (show ((u1_9 - 0) + 1) ≤ (u2_9 + 1) from by (first | omega | (simp only [st_s] <;> omega) | assumption | omega | fail)) (show (u2_9 + 1) ≤ (τ_115.1 43) from by (first | omega | (simp only [st_s] <;> omega) | assumption | omega | fail)) (show J_nf (u2_9 + 1) (τ_115.1 44) (τ_115.1 43) (τ_115.2.1 62) (τ_115.2.1 55) (τ_115.2.1 36) (τ_115.2.1 59) (τ_115.2.1 57) from by (first | (intro m a b; exfalso; omega) | (rw [w44_τ13, g62_τ13, g55_τ13, g36_τ13, g59_τ13, g57_τ13]; exact J_nf_k nfx (by omega) (by rw [← e_x4]; first | exact Or.inl (by omega) | (refine Or.inr ?_; omega) | (refine Or.inr ?_; rw [G36, W44]; omega))) | (rw [w44_τ_115, w43_τ_115, g62_τ_115, g55_τ_115, g36_τ_115, g59_τ_115, g57_τ_115, w44_τ13, g62_τ13, g55_τ13, g36_τ13, g59_τ13, g57_τ13, show x22 = x20 from by omega]; exact J_nf_s nfx (by omega) (by omega) (fun _ => by rw [← e_x4, e_x20, g55_τ13])) | fail)) (show ∀ p : Int, 0 ≤ p → p < ((u1_9 - 0) + 1) → (st (τ_115.2.1 66) (u1_9 - 0) x18) p ≤ (τ_115.1 43) from by (first | (intro p a b; exfalso; omega) | (intro p a b; by_cases z : p = u1_9 - 0; (rw [show p = u1_9 - 0 from z, st_s]; omega); (rw [st_n _ _ z, g66_τ13]; have w := i9_7 p a (by omega); omega)) | (intro p a b; by_cases z : p = u1_9 - x8; (rw [z, st_s]; omega); (rw [st_n _ _ z, g66_τ13]; have w := i9_7 p a (by omega); omega)) | (intro p a b; by_cases z : p = u1_9 - x8; (rw [z, st_s]; omega); (rw [st_n _ _ z, g66_τ_115, g66_τ13]; have w := i9_7 p a (by omega); omega)) | fail))
            ·
              exact ⟨hT, (show 0 ≤ 0 ∧ 0 ≤ 1 from by (first | omega | (simp only [st_s] <;> omega) | assumption | omega | fail))⟩
  replace hT := cT_v (i := 43) hT (show (0 : Int) ≤ 0 ∧ 0 ≤ 4000 from by (first | omega | (simp only [st_s] <;> omega) | assumption | omega | fail))
  exact l_9 ((20002 - 0 : Int).toNat + 1) _ _ _ (show (20002 - 0 : Int) < (((20002 - 0 : Int).toNat + 1 : Nat) : Int) from by ((first | omega | (simp only [st_s] <;> omega) | assumption | omega | fail))) hT (show σ.1 6 = σ.1 6 from by first | exact W6 | omega) (show σ.1 7 = σ.1 7 from by first | exact W7 | omega) (show σ.1 13 = σ.1 13 from by first | exact W13 | omega) (show σ.1 14 = σ.1 14 from by first | exact W14 | omega) (show σ.1 15 = σ.1 15 from by first | exact W15 | omega) (show σ.1 41 = σ.1 41 from by first | exact W41 | omega) (show σ.1 44 = σ.1 44 from by first | exact W44 | omega) G10 G13 G14 G15 G16 G27 G28 G29 G30 G31 G32 G33 G34 G35 G36 G37 G55 G62 (show 0 ≤ 0 from by (first | omega | (simp only [st_s] <;> omega) | assumption | omega | fail)) (show 0 ≤ 20001 from by (first | omega | (simp only [st_s] <;> omega) | assumption | omega | fail)) (show 0 ≤ 0 from by (first | omega | (simp only [st_s] <;> omega) | assumption | omega | fail)) (show 0 ≤ 0 from by (first | omega | (simp only [st_s] <;> omega) | assumption | omega | fail)) (show 0 ≤ ((0 : Int)) from by (first | omega | (simp only [st_s] <;> omega) | assumption | omega | fail)) (show J_nf 0 (σ.1 44) ((0 : Int)) (σ.2.1 62) (σ.2.1 55) (σ.2.1 36) (σ.2.1 59) (σ.2.1 57) from by (first | (intro m a b; exfalso; omega) | (rw [w44_τ13, g62_τ13, g55_τ13, g36_τ13, g59_τ13, g57_τ13]; exact J_nf_k nfx (by omega) (by rw [← e_x4]; first | exact Or.inl (by omega) | (refine Or.inr ?_; omega) | (refine Or.inr ?_; rw [G36, W44]; omega))) | (rw [w44_τ_115, w43_τ_115, g62_τ_115, g55_τ_115, g36_τ_115, g59_τ_115, g57_τ_115, w44_τ13, g62_τ13, g55_τ13, g36_τ13, g59_τ13, g57_τ13, show x22 = x20 from by omega]; exact J_nf_s nfx (by omega) (by omega) (fun _ => by rw [← e_x4, e_x20, g55_τ13])) | fail)) (show ∀ p : Int, 0 ≤ p → p < 0 → σ.2.1 66 p ≤ ((0 : Int)) from by (first | (intro p a b; exfalso; omega) | (intro p a b; by_cases z : p = u1_9 - 0; (rw [show p = u1_9 - 0 from z, st_s]; omega); (rw [st_n _ _ z, g66_τ13]; have w := i9_7 p a (by omega); omega)) | (intro p a b; by_cases z : p = u1_9 - x8; (rw [z, st_s]; omega); (rw [st_n _ _ z, g66_τ13]; have w := i9_7 p a (by omega); omega)) | (intro p a b; by_cases z : p = u1_9 - x8; (rw [z, st_s]; omega); (rw [st_n _ _ z, g66_τ_115, g66_τ13]; have w := i9_7 p a (by omega); omega)) | fail))
set_option maxHeartbeats 1000000 in
theorem K_X4_comesBack {n1 : Int} {σ : S0} (hT : c_T σ) (p1 : 0 ≤ n1) (p2 : n1 < (σ.1 7)) (p3 : σ.2.1 13 n1 = 3) (p4 : J_all (σ.1 7) (σ.1 6) (σ.1 13) (σ.1 14) (σ.1 15) (σ.2.1 13) (σ.2.1 14) (σ.2.1 15) (σ.2.1 16) (σ.2.1 10) (σ.2.1 27) (σ.2.1 28) (σ.2.1 29) (σ.2.1 30) (σ.2.1 31) (σ.2.1 32) (σ.2.1 33) (σ.2.1 34) (σ.2.1 35) (σ.2.1 36) (σ.2.1 37)) : W_X4_comesBack n1 σ (fun (x : Int) (τ : S0) => (c_T τ) ∧ (0 ≤ x ∧ x ≤ 1)) := by
  have A10 : ∀ j, (-1) ≤ σ.2.1 10 j ∧ σ.2.1 10 j ≤ 99 := fun j => hT.2 10 j
  have A13 : ∀ j, 0 ≤ σ.2.1 13 j ∧ σ.2.1 13 j ≤ 4 := fun j => hT.2 13 j
  have A14 : ∀ j, 0 ≤ σ.2.1 14 j ∧ σ.2.1 14 j ≤ 30000 := fun j => hT.2 14 j
  have A15 : ∀ j, 0 ≤ σ.2.1 15 j ∧ σ.2.1 15 j ≤ 999 := fun j => hT.2 15 j
  have A16 : ∀ j, (-1) ≤ σ.2.1 16 j ∧ σ.2.1 16 j ≤ 1499 := fun j => hT.2 16 j
  have A27 : ∀ j, 0 ≤ σ.2.1 27 j ∧ σ.2.1 27 j ≤ 90000 := fun j => hT.2 27 j
  have A28 : ∀ j, 0 ≤ σ.2.1 28 j ∧ σ.2.1 28 j ≤ 60 := fun j => hT.2 28 j
  have A29 : ∀ j, 0 ≤ σ.2.1 29 j ∧ σ.2.1 29 j ≤ 1499 := fun j => hT.2 29 j
  have A30 : ∀ j, 0 ≤ σ.2.1 30 j ∧ σ.2.1 30 j ≤ 20000 := fun j => hT.2 30 j
  have A31 : ∀ j, 0 ≤ σ.2.1 31 j ∧ σ.2.1 31 j ≤ 20000 := fun j => hT.2 31 j
  have A32 : ∀ j, 0 ≤ σ.2.1 32 j ∧ σ.2.1 32 j ≤ 999999 := fun j => hT.2 32 j
  have A33 : ∀ j, 0 ≤ σ.2.1 33 j ∧ σ.2.1 33 j ≤ 20000 := fun j => hT.2 33 j
  have A34 : ∀ j, 0 ≤ σ.2.1 34 j ∧ σ.2.1 34 j ≤ 20000 := fun j => hT.2 34 j
  have A35 : ∀ j, 0 ≤ σ.2.1 35 j ∧ σ.2.1 35 j ≤ 1499 := fun j => hT.2 35 j
  have A36 : ∀ j, 0 ≤ σ.2.1 36 j ∧ σ.2.1 36 j ≤ 20000 := fun j => hT.2 36 j
  have A37 : ∀ j, 0 ≤ σ.2.1 37 j ∧ σ.2.1 37 j ≤ 19999 := fun j => hT.2 37 j
  have A55 : ∀ j, 0 ≤ σ.2.1 55 j ∧ σ.2.1 55 j ≤ 19999 := fun j => hT.2 55 j
  have A62 : ∀ j, (-20000) ≤ σ.2.1 62 j ∧ σ.2.1 62 j ≤ 19999 := fun j => hT.2 62 j
  have v6 : 0 ≤ σ.1 6 ∧ σ.1 6 ≤ 30000 := hT.1 6
  have v7 : 0 ≤ σ.1 7 ∧ σ.1 7 ≤ 1500 := hT.1 7
  have v13 : 0 ≤ σ.1 13 ∧ σ.1 13 ≤ 90000 := hT.1 13
  have v14 : 0 ≤ σ.1 14 ∧ σ.1 14 ≤ 20000 := hT.1 14
  have v15 : 0 ≤ σ.1 15 ∧ σ.1 15 ≤ 20000 := hT.1 15
  have v41 : 0 ≤ σ.1 41 ∧ σ.1 41 ≤ 20001 := hT.1 41
  have v43 : 0 ≤ σ.1 43 ∧ σ.1 43 ≤ 4000 := hT.1 43
  have v44 : 0 ≤ σ.1 44 ∧ σ.1 44 ≤ 20000 := hT.1 44
  have W6 : σ.1 6 = σ.1 6 := rfl
  have W7 : σ.1 7 = σ.1 7 := rfl
  have W13 : σ.1 13 = σ.1 13 := rfl
  have W14 : σ.1 14 = σ.1 14 := rfl
  have W15 : σ.1 15 = σ.1 15 := rfl
  have G10 : σ.2.1 10 = σ.2.1 10 := rfl
  have G13 : σ.2.1 13 = σ.2.1 13 := rfl
  have G14 : σ.2.1 14 = σ.2.1 14 := rfl
  have G15 : σ.2.1 15 = σ.2.1 15 := rfl
  have G16 : σ.2.1 16 = σ.2.1 16 := rfl
  have G27 : σ.2.1 27 = σ.2.1 27 := rfl
  have G28 : σ.2.1 28 = σ.2.1 28 := rfl
  have G29 : σ.2.1 29 = σ.2.1 29 := rfl
  have G30 : σ.2.1 30 = σ.2.1 30 := rfl
  have G31 : σ.2.1 31 = σ.2.1 31 := rfl
  have G32 : σ.2.1 32 = σ.2.1 32 := rfl
  have G33 : σ.2.1 33 = σ.2.1 33 := rfl
  have G34 : σ.2.1 34 = σ.2.1 34 := rfl
  have G35 : σ.2.1 35 = σ.2.1 35 := rfl
  have G36 : σ.2.1 36 = σ.2.1 36 := rfl
  have G37 : σ.2.1 37 = σ.2.1 37 := rfl
  intro P34 h34
  have CJ : J_all (σ.1 7) (σ.1 6) (σ.1 13) (σ.1 14) (σ.1 15) (σ.2.1 13) (σ.2.1 14) (σ.2.1 15) (σ.2.1 16) (σ.2.1 10) (σ.2.1 27) (σ.2.1 28) (σ.2.1 29) (σ.2.1 30) (σ.2.1 31) (σ.2.1 32) (σ.2.1 33) (σ.2.1 34) (σ.2.1 35) (σ.2.1 36) (σ.2.1 37) := p4
  have CJ_0 := CJ
  have l_34 : ∀ (m_34 : Nat) (u2_34 : Int) (τ_34 : S0), 4001 - u2_34 < (m_34 : Int) → (c_T τ_34) → (τ_34.1 6 = σ.1 6) → (τ_34.1 7 = σ.1 7) → (τ_34.1 13 = σ.1 13) → (τ_34.1 14 = σ.1 14) → (τ_34.1 15 = σ.1 15) → (τ_34.2.1 10 = σ.2.1 10) → (τ_34.2.1 13 = σ.2.1 13) → (τ_34.2.1 14 = σ.2.1 14) → (τ_34.2.1 15 = σ.2.1 15) → (τ_34.2.1 16 = σ.2.1 16) → (τ_34.2.1 27 = σ.2.1 27) → (τ_34.2.1 28 = σ.2.1 28) → (τ_34.2.1 29 = σ.2.1 29) → (τ_34.2.1 30 = σ.2.1 30) → (τ_34.2.1 31 = σ.2.1 31) → (τ_34.2.1 32 = σ.2.1 32) → (τ_34.2.1 33 = σ.2.1 33) → (τ_34.2.1 34 = σ.2.1 34) → (τ_34.2.1 35 = σ.2.1 35) → (τ_34.2.1 36 = σ.2.1 36) → (τ_34.2.1 37 = σ.2.1 37) → (0 ≤ u2_34) → (u2_34 ≤ 4000) → ((τ_34.1 41) ≤ 4000) → (J_tr (τ_34.1 41) ((τ_34.1 15) - 1 - (τ_34.1 44)) (τ_34.1 44) (τ_34.2.1 62) (τ_34.2.1 55) (τ_34.2.1 36)) → P34 u2_34 τ_34 := by
    intro m_34
    induction m_34 with
    | zero =>
      intro u2_34 τ_34 hm hT W6 W7 W13 W14 W15 G10 G13 G14 G15 G16 G27 G28 G29 G30 G31 G32 G33 G34 G35 G36 G37 i34_1 i34_2 i34_3 i34_4
      have A10 : ∀ j, (-1) ≤ τ_34.2.1 10 j ∧ τ_34.2.1 10 j ≤ 99 := fun j => hT.2 10 j
      have A13 : ∀ j, 0 ≤ τ_34.2.1 13 j ∧ τ_34.2.1 13 j ≤ 4 := fun j => hT.2 13 j
      have A14 : ∀ j, 0 ≤ τ_34.2.1 14 j ∧ τ_34.2.1 14 j ≤ 30000 := fun j => hT.2 14 j
      have A15 : ∀ j, 0 ≤ τ_34.2.1 15 j ∧ τ_34.2.1 15 j ≤ 999 := fun j => hT.2 15 j
      have A16 : ∀ j, (-1) ≤ τ_34.2.1 16 j ∧ τ_34.2.1 16 j ≤ 1499 := fun j => hT.2 16 j
      have A27 : ∀ j, 0 ≤ τ_34.2.1 27 j ∧ τ_34.2.1 27 j ≤ 90000 := fun j => hT.2 27 j
      have A28 : ∀ j, 0 ≤ τ_34.2.1 28 j ∧ τ_34.2.1 28 j ≤ 60 := fun j => hT.2 28 j
      have A29 : ∀ j, 0 ≤ τ_34.2.1 29 j ∧ τ_34.2.1 29 j ≤ 1499 := fun j => hT.2 29 j
      have A30 : ∀ j, 0 ≤ τ_34.2.1 30 j ∧ τ_34.2.1 30 j ≤ 20000 := fun j => hT.2 30 j
      have A31 : ∀ j, 0 ≤ τ_34.2.1 31 j ∧ τ_34.2.1 31 j ≤ 20000 := fun j => hT.2 31 j
      have A32 : ∀ j, 0 ≤ τ_34.2.1 32 j ∧ τ_34.2.1 32 j ≤ 999999 := fun j => hT.2 32 j
      have A33 : ∀ j, 0 ≤ τ_34.2.1 33 j ∧ τ_34.2.1 33 j ≤ 20000 := fun j => hT.2 33 j
      have A34 : ∀ j, 0 ≤ τ_34.2.1 34 j ∧ τ_34.2.1 34 j ≤ 20000 := fun j => hT.2 34 j
      have A35 : ∀ j, 0 ≤ τ_34.2.1 35 j ∧ τ_34.2.1 35 j ≤ 1499 := fun j => hT.2 35 j
      have A36 : ∀ j, 0 ≤ τ_34.2.1 36 j ∧ τ_34.2.1 36 j ≤ 20000 := fun j => hT.2 36 j
      have A37 : ∀ j, 0 ≤ τ_34.2.1 37 j ∧ τ_34.2.1 37 j ≤ 19999 := fun j => hT.2 37 j
      have A55 : ∀ j, 0 ≤ τ_34.2.1 55 j ∧ τ_34.2.1 55 j ≤ 19999 := fun j => hT.2 55 j
      have A62 : ∀ j, (-20000) ≤ τ_34.2.1 62 j ∧ τ_34.2.1 62 j ≤ 19999 := fun j => hT.2 62 j
      have v6 : 0 ≤ τ_34.1 6 ∧ τ_34.1 6 ≤ 30000 := hT.1 6
      have v7 : 0 ≤ τ_34.1 7 ∧ τ_34.1 7 ≤ 1500 := hT.1 7
      have v13 : 0 ≤ τ_34.1 13 ∧ τ_34.1 13 ≤ 90000 := hT.1 13
      have v14 : 0 ≤ τ_34.1 14 ∧ τ_34.1 14 ≤ 20000 := hT.1 14
      have v15 : 0 ≤ τ_34.1 15 ∧ τ_34.1 15 ≤ 20000 := hT.1 15
      have v41 : 0 ≤ τ_34.1 41 ∧ τ_34.1 41 ≤ 20001 := hT.1 41
      have v43 : 0 ≤ τ_34.1 43 ∧ τ_34.1 43 ≤ 4000 := hT.1 43
      have v44 : 0 ≤ τ_34.1 44 ∧ τ_34.1 44 ≤ 20000 := hT.1 44
      exfalso; (first | omega | (simp only [st_s] <;> omega) | assumption | omega | fail)
    | succ m_34 ih_34 =>
      intro u2_34 τ_34 hm_34 hT W6 W7 W13 W14 W15 G10 G13 G14 G15 G16 G27 G28 G29 G30 G31 G32 G33 G34 G35 G36 G37 i34_1 i34_2 i34_3 i34_4
      have A10 : ∀ j, (-1) ≤ τ_34.2.1 10 j ∧ τ_34.2.1 10 j ≤ 99 := fun j => hT.2 10 j
      have A13 : ∀ j, 0 ≤ τ_34.2.1 13 j ∧ τ_34.2.1 13 j ≤ 4 := fun j => hT.2 13 j
      have A14 : ∀ j, 0 ≤ τ_34.2.1 14 j ∧ τ_34.2.1 14 j ≤ 30000 := fun j => hT.2 14 j
      have A15 : ∀ j, 0 ≤ τ_34.2.1 15 j ∧ τ_34.2.1 15 j ≤ 999 := fun j => hT.2 15 j
      have A16 : ∀ j, (-1) ≤ τ_34.2.1 16 j ∧ τ_34.2.1 16 j ≤ 1499 := fun j => hT.2 16 j
      have A27 : ∀ j, 0 ≤ τ_34.2.1 27 j ∧ τ_34.2.1 27 j ≤ 90000 := fun j => hT.2 27 j
      have A28 : ∀ j, 0 ≤ τ_34.2.1 28 j ∧ τ_34.2.1 28 j ≤ 60 := fun j => hT.2 28 j
      have A29 : ∀ j, 0 ≤ τ_34.2.1 29 j ∧ τ_34.2.1 29 j ≤ 1499 := fun j => hT.2 29 j
      have A30 : ∀ j, 0 ≤ τ_34.2.1 30 j ∧ τ_34.2.1 30 j ≤ 20000 := fun j => hT.2 30 j
      have A31 : ∀ j, 0 ≤ τ_34.2.1 31 j ∧ τ_34.2.1 31 j ≤ 20000 := fun j => hT.2 31 j
      have A32 : ∀ j, 0 ≤ τ_34.2.1 32 j ∧ τ_34.2.1 32 j ≤ 999999 := fun j => hT.2 32 j
      have A33 : ∀ j, 0 ≤ τ_34.2.1 33 j ∧ τ_34.2.1 33 j ≤ 20000 := fun j => hT.2 33 j
      have A34 : ∀ j, 0 ≤ τ_34.2.1 34 j ∧ τ_34.2.1 34 j ≤ 20000 := fun j => hT.2 34 j
      have A35 : ∀ j, 0 ≤ τ_34.2.1 35 j ∧ τ_34.2.1 35 j ≤ 1499 := fun j => hT.2 35 j
      have A36 : ∀ j, 0 ≤ τ_34.2.1 36 j ∧ τ_34.2.1 36 j ≤ 20000 := fun j => hT.2 36 j
      have A37 : ∀ j, 0 ≤ τ_34.2.1 37 j ∧ τ_34.2.1 37 j ≤ 19999 := fun j => hT.2 37 j
      have A55 : ∀ j, 0 ≤ τ_34.2.1 55 j ∧ τ_34.2.1 55 j ≤ 19999 := fun j => hT.2 55 j
      have A62 : ∀ j, (-20000) ≤ τ_34.2.1 62 j ∧ τ_34.2.1 62 j ≤ 19999 := fun j => hT.2 62 j
      have v6 : 0 ≤ τ_34.1 6 ∧ τ_34.1 6 ≤ 30000 := hT.1 6
      have v7 : 0 ≤ τ_34.1 7 ∧ τ_34.1 7 ≤ 1500 := hT.1 7
      have v13 : 0 ≤ τ_34.1 13 ∧ τ_34.1 13 ≤ 90000 := hT.1 13
      have v14 : 0 ≤ τ_34.1 14 ∧ τ_34.1 14 ≤ 20000 := hT.1 14
      have v15 : 0 ≤ τ_34.1 15 ∧ τ_34.1 15 ≤ 20000 := hT.1 15
      have v41 : 0 ≤ τ_34.1 41 ∧ τ_34.1 41 ≤ 20001 := hT.1 41
      have v43 : 0 ≤ τ_34.1 43 ∧ τ_34.1 43 ≤ 4000 := hT.1 43
      have v44 : 0 ≤ τ_34.1 44 ∧ τ_34.1 44 ≤ 20000 := hT.1 44
      have CJ : J_all (τ_34.1 7) (τ_34.1 6) (τ_34.1 13) (τ_34.1 14) (τ_34.1 15) (τ_34.2.1 13) (τ_34.2.1 14) (τ_34.2.1 15) (τ_34.2.1 16) (τ_34.2.1 10) (τ_34.2.1 27) (τ_34.2.1 28) (τ_34.2.1 29) (τ_34.2.1 30) (τ_34.2.1 31) (τ_34.2.1 32) (τ_34.2.1 33) (τ_34.2.1 34) (τ_34.2.1 35) (τ_34.2.1 36) (τ_34.2.1 37) := by rw [show (J_all (τ_34.1 7) (τ_34.1 6) (τ_34.1 13) (τ_34.1 14) (τ_34.1 15) (τ_34.2.1 13) (τ_34.2.1 14) (τ_34.2.1 15) (τ_34.2.1 16) (τ_34.2.1 10) (τ_34.2.1 27) (τ_34.2.1 28) (τ_34.2.1 29) (τ_34.2.1 30) (τ_34.2.1 31) (τ_34.2.1 32) (τ_34.2.1 33) (τ_34.2.1 34) (τ_34.2.1 35) (τ_34.2.1 36) (τ_34.2.1 37)) = (J_all (σ.1 7) (σ.1 6) (σ.1 13) (σ.1 14) (σ.1 15) (σ.2.1 13) (σ.2.1 14) (σ.2.1 15) (σ.2.1 16) (σ.2.1 10) (σ.2.1 27) (σ.2.1 28) (σ.2.1 29) (σ.2.1 30) (σ.2.1 31) (σ.2.1 32) (σ.2.1 33) (σ.2.1 34) (σ.2.1 35) (σ.2.1 36) (σ.2.1 37)) from by rw [W6, W7, W13, W14, W15, G10, G13, G14, G15, G16, G27, G28, G29, G30, G31, G32, G33, G34, G35, G36, G37]]; exact CJ_0
      have TR : J_tr (τ_34.1 41) ((τ_34.1 15) - 1 - (τ_34.1 44)) (τ_34.1 44) (τ_34.2.1 62) (τ_34.2.1 55) (τ_34.2.1 36) := i34_4
      refine h34 u2_34 τ_34 ?_
      refine ⟨fun c12 => ?_, fun c12 => ?_⟩
      ·
        exact ⟨hT, (show 0 ≤ 1 ∧ 1 ≤ 1 from by (first | omega | (simp only [st_s] <;> omega) | assumption | omega | fail))⟩
      ·
        have tr := i34_4 u2_34 (by omega) (by omega)
        have trl : τ_34.2.1 62 u2_34 ≤ τ_34.1 15 - 1 - τ_34.1 44 := by rcases tr with q | ⟨q, m, m0, m1, m2, m3, m4⟩ <;> omega
        refine ⟨_, K_X4_statementOf hT (show 0 ≤ u2_34 from by (first | omega | (simp only [st_s] <;> omega) | assumption | omega | fail)) (show u2_34 < 20001 from by (first | omega | (simp only [st_s] <;> omega) | assumption | omega | fail)) (show τ_34.2.1 62 u2_34 ≤ (τ_34.1 15) - 1 - (τ_34.1 44) from by (first | omega | (simp only [st_s] <;> omega) | assumption | omega | fail)), ?_⟩
        intro x14 r_x14 hq
        obtain ⟨q13_1, q13_2, q13_3⟩ := hq
        replace q13_1 : -1 ≤ x14 ∧ x14 ≤ 1499 := q13_1
        replace q13_2 : 0 ≤ τ_34.2.1 62 u2_34 → 0 ≤ x14 := q13_2
        replace q13_3 : τ_34.2.1 62 u2_34 < 0 → x14 = -1 := q13_3
        refine ⟨(show 0 ≤ u2_34 ∧ u2_34 < 4000 from by (first | omega | (simp only [st_s] <;> omega) | assumption | omega | fail)), ?_⟩
        intro x17 r_x17 e_x17
        have b_x17 : (-1) ≤ x17 ∧ x17 ≤ 1499 := by rw [e_x17]; exact hT.2 65 _
        refine ⟨fun c18 => ?_, fun c18 => ?_⟩
        ·
          refine ⟨(⟨by (first | omega | (simp only [st_s] <;> omega) | assumption | omega | fail), by (first | omega | (simp only [st_s] <;> omega) | assumption | omega | fail)⟩ : rg (u2_34 + 1)), ?_⟩
          exact ih_34 _ _ (show (4001 - (u2_34 + 1) : Int) < ((m_34 : Nat) : Int) from by ((first | omega | (simp only [st_s] <;> omega) | assumption | omega | fail))) hT (show τ_34.1 6 = σ.1 6 from by first | exact W6 | omega) (show τ_34.1 7 = σ.1 7 from by first | exact W7 | omega) (show τ_34.1 13 = σ.1 13 from by first | exact W13 | omega) (show τ_34.1 14 = σ.1 14 from by first | exact W14 | omega) (show τ_34.1 15 = σ.1 15 from by first | exact W15 | omega) G10 G13 G14 G15 G16 G27 G28 G29 G30 G31 G32 G33 G34 G35 G36 G37 (show 0 ≤ (u2_34 + 1) from by (first | omega | (simp only [st_s] <;> omega) | assumption | omega | fail)) (show (u2_34 + 1) ≤ 4000 from by (first | omega | (simp only [st_s] <;> omega) | assumption | omega | fail)) (show (τ_34.1 41) ≤ 4000 from by (first | omega | (simp only [st_s] <;> omega) | assumption | omega | fail)) (show J_tr (τ_34.1 41) ((τ_34.1 15) - 1 - (τ_34.1 44)) (τ_34.1 44) (τ_34.2.1 62) (τ_34.2.1 55) (τ_34.2.1 36) from TR)
        ·
          exact ⟨hT, (show 0 ≤ 0 ∧ 0 ≤ 1 from by (first | omega | (simp only [st_s] <;> omega) | assumption | omega | fail))⟩
  refine ⟨_, K_X4_pack hT (show 0 ≤ n1 from by (first | omega | (simp only [st_s] <;> omega) | assumption | omega | fail)) (show n1 < (σ.1 7) from by (first | omega | (simp only [st_s] <;> omega) | assumption | omega | fail)) (show σ.2.1 13 n1 = 3 from by (first | omega | (simp only [st_s] <;> omega) | assumption | omega | fail)) (show J_all (σ.1 7) (σ.1 6) (σ.1 13) (σ.1 14) (σ.1 15) (σ.2.1 13) (σ.2.1 14) (σ.2.1 15) (σ.2.1 16) (σ.2.1 10) (σ.2.1 27) (σ.2.1 28) (σ.2.1 29) (σ.2.1 30) (σ.2.1 31) (σ.2.1 32) (σ.2.1 33) (σ.2.1 34) (σ.2.1 35) (σ.2.1 36) (σ.2.1 37) from CJ), ?_⟩
  intro τ3 hn_τ3 hf_τ3 hq
  obtain ⟨hT, q1_1, q1_2⟩ := hq
  replace q1_1 : J_tr (τ3.1 41) ((τ3.1 15) - 1 - (τ3.1 44)) (τ3.1 44) (τ3.2.1 62) (τ3.2.1 55) (τ3.2.1 36) := q1_1
  replace q1_2 : (τ3.1 44) = σ.2.1 33 n1 := q1_2
  have w6_τ3 : τ3.1 6 = σ.1 6 := hf_τ3.1 6 (by decide)
  have w7_τ3 : τ3.1 7 = σ.1 7 := hf_τ3.1 7 (by decide)
  have w13_τ3 : τ3.1 13 = σ.1 13 := hf_τ3.1 13 (by decide)
  have w14_τ3 : τ3.1 14 = σ.1 14 := hf_τ3.1 14 (by decide)
  have w15_τ3 : τ3.1 15 = σ.1 15 := hf_τ3.1 15 (by decide)
  have w43_τ3 : τ3.1 43 = σ.1 43 := hf_τ3.1 43 (by decide)
  have g10_τ3 : τ3.2.1 10 = σ.2.1 10 := hf_τ3.2.1 10 (by decide)
  have g13_τ3 : τ3.2.1 13 = σ.2.1 13 := hf_τ3.2.1 13 (by decide)
  have g14_τ3 : τ3.2.1 14 = σ.2.1 14 := hf_τ3.2.1 14 (by decide)
  have g15_τ3 : τ3.2.1 15 = σ.2.1 15 := hf_τ3.2.1 15 (by decide)
  have g16_τ3 : τ3.2.1 16 = σ.2.1 16 := hf_τ3.2.1 16 (by decide)
  have g27_τ3 : τ3.2.1 27 = σ.2.1 27 := hf_τ3.2.1 27 (by decide)
  have g28_τ3 : τ3.2.1 28 = σ.2.1 28 := hf_τ3.2.1 28 (by decide)
  have g29_τ3 : τ3.2.1 29 = σ.2.1 29 := hf_τ3.2.1 29 (by decide)
  have g30_τ3 : τ3.2.1 30 = σ.2.1 30 := hf_τ3.2.1 30 (by decide)
  have g31_τ3 : τ3.2.1 31 = σ.2.1 31 := hf_τ3.2.1 31 (by decide)
  have g32_τ3 : τ3.2.1 32 = σ.2.1 32 := hf_τ3.2.1 32 (by decide)
  have g33_τ3 : τ3.2.1 33 = σ.2.1 33 := hf_τ3.2.1 33 (by decide)
  have g34_τ3 : τ3.2.1 34 = σ.2.1 34 := hf_τ3.2.1 34 (by decide)
  have g35_τ3 : τ3.2.1 35 = σ.2.1 35 := hf_τ3.2.1 35 (by decide)
  have g36_τ3 : τ3.2.1 36 = σ.2.1 36 := hf_τ3.2.1 36 (by decide)
  have g37_τ3 : τ3.2.1 37 = σ.2.1 37 := hf_τ3.2.1 37 (by decide)
  have W6 : τ3.1 6 = σ.1 6 := by first | exact w6_τ3.trans W6 | omega
  have W7 : τ3.1 7 = σ.1 7 := by first | exact w7_τ3.trans W7 | omega
  have W13 : τ3.1 13 = σ.1 13 := by first | exact w13_τ3.trans W13 | omega
  have W14 : τ3.1 14 = σ.1 14 := by first | exact w14_τ3.trans W14 | omega
  have W15 : τ3.1 15 = σ.1 15 := by first | exact w15_τ3.trans W15 | omega
  have G10 : τ3.2.1 10 = σ.2.1 10 := (g10_τ3).trans G10
  have G13 : τ3.2.1 13 = σ.2.1 13 := (g13_τ3).trans G13
  have G14 : τ3.2.1 14 = σ.2.1 14 := (g14_τ3).trans G14
  have G15 : τ3.2.1 15 = σ.2.1 15 := (g15_τ3).trans G15
  have G16 : τ3.2.1 16 = σ.2.1 16 := (g16_τ3).trans G16
  have G27 : τ3.2.1 27 = σ.2.1 27 := (g27_τ3).trans G27
  have G28 : τ3.2.1 28 = σ.2.1 28 := (g28_τ3).trans G28
  have G29 : τ3.2.1 29 = σ.2.1 29 := (g29_τ3).trans G29
  have G30 : τ3.2.1 30 = σ.2.1 30 := (g30_τ3).trans G30
  have G31 : τ3.2.1 31 = σ.2.1 31 := (g31_τ3).trans G31
  have G32 : τ3.2.1 32 = σ.2.1 32 := (g32_τ3).trans G32
  have G33 : τ3.2.1 33 = σ.2.1 33 := (g33_τ3).trans G33
  have G34 : τ3.2.1 34 = σ.2.1 34 := (g34_τ3).trans G34
  have G35 : τ3.2.1 35 = σ.2.1 35 := (g35_τ3).trans G35
  have G36 : τ3.2.1 36 = σ.2.1 36 := (g36_τ3).trans G36
  have G37 : τ3.2.1 37 = σ.2.1 37 := (g37_τ3).trans G37
  have CJ : J_all (τ3.1 7) (τ3.1 6) (τ3.1 13) (τ3.1 14) (τ3.1 15) (τ3.2.1 13) (τ3.2.1 14) (τ3.2.1 15) (τ3.2.1 16) (τ3.2.1 10) (τ3.2.1 27) (τ3.2.1 28) (τ3.2.1 29) (τ3.2.1 30) (τ3.2.1 31) (τ3.2.1 32) (τ3.2.1 33) (τ3.2.1 34) (τ3.2.1 35) (τ3.2.1 36) (τ3.2.1 37) := by rw [show (J_all (τ3.1 7) (τ3.1 6) (τ3.1 13) (τ3.1 14) (τ3.1 15) (τ3.2.1 13) (τ3.2.1 14) (τ3.2.1 15) (τ3.2.1 16) (τ3.2.1 10) (τ3.2.1 27) (τ3.2.1 28) (τ3.2.1 29) (τ3.2.1 30) (τ3.2.1 31) (τ3.2.1 32) (τ3.2.1 33) (τ3.2.1 34) (τ3.2.1 35) (τ3.2.1 36) (τ3.2.1 37)) = (J_all (σ.1 7) (σ.1 6) (σ.1 13) (σ.1 14) (σ.1 15) (σ.2.1 13) (σ.2.1 14) (σ.2.1 15) (σ.2.1 16) (σ.2.1 10) (σ.2.1 27) (σ.2.1 28) (σ.2.1 29) (σ.2.1 30) (σ.2.1 31) (σ.2.1 32) (σ.2.1 33) (σ.2.1 34) (σ.2.1 35) (σ.2.1 36) (σ.2.1 37)) from by rw [w6_τ3, w7_τ3, w13_τ3, w14_τ3, w15_τ3, g10_τ3, g13_τ3, g14_τ3, g15_τ3, g16_τ3, g27_τ3, g28_τ3, g29_τ3, g30_τ3, g31_τ3, g32_τ3, g33_τ3, g34_τ3, g35_τ3, g36_τ3, g37_τ3]]; exact CJ
  have TR : J_tr (τ3.1 41) ((τ3.1 15) - 1 - (τ3.1 44)) (τ3.1 44) (τ3.2.1 62) (τ3.2.1 55) (τ3.2.1 36) := q1_1
  have A10 : ∀ j, (-1) ≤ τ3.2.1 10 j ∧ τ3.2.1 10 j ≤ 99 := fun j => hT.2 10 j
  have A13 : ∀ j, 0 ≤ τ3.2.1 13 j ∧ τ3.2.1 13 j ≤ 4 := fun j => hT.2 13 j
  have A14 : ∀ j, 0 ≤ τ3.2.1 14 j ∧ τ3.2.1 14 j ≤ 30000 := fun j => hT.2 14 j
  have A15 : ∀ j, 0 ≤ τ3.2.1 15 j ∧ τ3.2.1 15 j ≤ 999 := fun j => hT.2 15 j
  have A16 : ∀ j, (-1) ≤ τ3.2.1 16 j ∧ τ3.2.1 16 j ≤ 1499 := fun j => hT.2 16 j
  have A27 : ∀ j, 0 ≤ τ3.2.1 27 j ∧ τ3.2.1 27 j ≤ 90000 := fun j => hT.2 27 j
  have A28 : ∀ j, 0 ≤ τ3.2.1 28 j ∧ τ3.2.1 28 j ≤ 60 := fun j => hT.2 28 j
  have A29 : ∀ j, 0 ≤ τ3.2.1 29 j ∧ τ3.2.1 29 j ≤ 1499 := fun j => hT.2 29 j
  have A30 : ∀ j, 0 ≤ τ3.2.1 30 j ∧ τ3.2.1 30 j ≤ 20000 := fun j => hT.2 30 j
  have A31 : ∀ j, 0 ≤ τ3.2.1 31 j ∧ τ3.2.1 31 j ≤ 20000 := fun j => hT.2 31 j
  have A32 : ∀ j, 0 ≤ τ3.2.1 32 j ∧ τ3.2.1 32 j ≤ 999999 := fun j => hT.2 32 j
  have A33 : ∀ j, 0 ≤ τ3.2.1 33 j ∧ τ3.2.1 33 j ≤ 20000 := fun j => hT.2 33 j
  have A34 : ∀ j, 0 ≤ τ3.2.1 34 j ∧ τ3.2.1 34 j ≤ 20000 := fun j => hT.2 34 j
  have A35 : ∀ j, 0 ≤ τ3.2.1 35 j ∧ τ3.2.1 35 j ≤ 1499 := fun j => hT.2 35 j
  have A36 : ∀ j, 0 ≤ τ3.2.1 36 j ∧ τ3.2.1 36 j ≤ 20000 := fun j => hT.2 36 j
  have A37 : ∀ j, 0 ≤ τ3.2.1 37 j ∧ τ3.2.1 37 j ≤ 19999 := fun j => hT.2 37 j
  have A55 : ∀ j, 0 ≤ τ3.2.1 55 j ∧ τ3.2.1 55 j ≤ 19999 := fun j => hT.2 55 j
  have A62 : ∀ j, (-20000) ≤ τ3.2.1 62 j ∧ τ3.2.1 62 j ≤ 19999 := fun j => hT.2 62 j
  have v6 : 0 ≤ τ3.1 6 ∧ τ3.1 6 ≤ 30000 := hT.1 6
  have v7 : 0 ≤ τ3.1 7 ∧ τ3.1 7 ≤ 1500 := hT.1 7
  have v13 : 0 ≤ τ3.1 13 ∧ τ3.1 13 ≤ 90000 := hT.1 13
  have v14 : 0 ≤ τ3.1 14 ∧ τ3.1 14 ≤ 20000 := hT.1 14
  have v15 : 0 ≤ τ3.1 15 ∧ τ3.1 15 ≤ 20000 := hT.1 15
  have v41 : 0 ≤ τ3.1 41 ∧ τ3.1 41 ≤ 20001 := hT.1 41
  have v43 : 0 ≤ τ3.1 43 ∧ τ3.1 43 ≤ 4000 := hT.1 43
  have v44 : 0 ≤ τ3.1 44 ∧ τ3.1 44 ≤ 20000 := hT.1 44
  refine ⟨_, K_X4_fill hT (show J_tr (τ3.1 41) ((τ3.1 15) - 1 - (τ3.1 44)) (τ3.1 44) (τ3.2.1 62) (τ3.2.1 55) (τ3.2.1 36) from TR) (show J_all (τ3.1 7) (τ3.1 6) (τ3.1 13) (τ3.1 14) (τ3.1 15) (τ3.2.1 13) (τ3.2.1 14) (τ3.2.1 15) (τ3.2.1 16) (τ3.2.1 10) (τ3.2.1 27) (τ3.2.1 28) (τ3.2.1 29) (τ3.2.1 30) (τ3.2.1 31) (τ3.2.1 32) (τ3.2.1 33) (τ3.2.1 34) (τ3.2.1 35) (τ3.2.1 36) (τ3.2.1 37) from CJ), ?_⟩
  intro x5 τ6 r_x5 hn_τ6 hf_τ6 hq
  obtain ⟨hT, q4_1⟩ := hq
  replace q4_1 : 0 ≤ x5 ∧ x5 ≤ 1 := q4_1
  have w6_τ6 : τ6.1 6 = τ3.1 6 := hf_τ6.1 6 (by decide)
  have w7_τ6 : τ6.1 7 = τ3.1 7 := hf_τ6.1 7 (by decide)
  have w13_τ6 : τ6.1 13 = τ3.1 13 := hf_τ6.1 13 (by decide)
  have w14_τ6 : τ6.1 14 = τ3.1 14 := hf_τ6.1 14 (by decide)
  have w15_τ6 : τ6.1 15 = τ3.1 15 := hf_τ6.1 15 (by decide)
  have w41_τ6 : τ6.1 41 = τ3.1 41 := hf_τ6.1 41 (by decide)
  have w44_τ6 : τ6.1 44 = τ3.1 44 := hf_τ6.1 44 (by decide)
  have g10_τ6 : τ6.2.1 10 = τ3.2.1 10 := hf_τ6.2.1 10 (by decide)
  have g13_τ6 : τ6.2.1 13 = τ3.2.1 13 := hf_τ6.2.1 13 (by decide)
  have g14_τ6 : τ6.2.1 14 = τ3.2.1 14 := hf_τ6.2.1 14 (by decide)
  have g15_τ6 : τ6.2.1 15 = τ3.2.1 15 := hf_τ6.2.1 15 (by decide)
  have g16_τ6 : τ6.2.1 16 = τ3.2.1 16 := hf_τ6.2.1 16 (by decide)
  have g27_τ6 : τ6.2.1 27 = τ3.2.1 27 := hf_τ6.2.1 27 (by decide)
  have g28_τ6 : τ6.2.1 28 = τ3.2.1 28 := hf_τ6.2.1 28 (by decide)
  have g29_τ6 : τ6.2.1 29 = τ3.2.1 29 := hf_τ6.2.1 29 (by decide)
  have g30_τ6 : τ6.2.1 30 = τ3.2.1 30 := hf_τ6.2.1 30 (by decide)
  have g31_τ6 : τ6.2.1 31 = τ3.2.1 31 := hf_τ6.2.1 31 (by decide)
  have g32_τ6 : τ6.2.1 32 = τ3.2.1 32 := hf_τ6.2.1 32 (by decide)
  have g33_τ6 : τ6.2.1 33 = τ3.2.1 33 := hf_τ6.2.1 33 (by decide)
  have g34_τ6 : τ6.2.1 34 = τ3.2.1 34 := hf_τ6.2.1 34 (by decide)
  have g35_τ6 : τ6.2.1 35 = τ3.2.1 35 := hf_τ6.2.1 35 (by decide)
  have g36_τ6 : τ6.2.1 36 = τ3.2.1 36 := hf_τ6.2.1 36 (by decide)
  have g37_τ6 : τ6.2.1 37 = τ3.2.1 37 := hf_τ6.2.1 37 (by decide)
  have g55_τ6 : τ6.2.1 55 = τ3.2.1 55 := hf_τ6.2.1 55 (by decide)
  have g62_τ6 : τ6.2.1 62 = τ3.2.1 62 := hf_τ6.2.1 62 (by decide)
  have W6 : τ6.1 6 = σ.1 6 := by first | exact w6_τ6.trans W6 | omega
  have W7 : τ6.1 7 = σ.1 7 := by first | exact w7_τ6.trans W7 | omega
  have W13 : τ6.1 13 = σ.1 13 := by first | exact w13_τ6.trans W13 | omega
  have W14 : τ6.1 14 = σ.1 14 := by first | exact w14_τ6.trans W14 | omega
  have W15 : τ6.1 15 = σ.1 15 := by first | exact w15_τ6.trans W15 | omega
  have G10 : τ6.2.1 10 = σ.2.1 10 := (g10_τ6).trans G10
  have G13 : τ6.2.1 13 = σ.2.1 13 := (g13_τ6).trans G13
  have G14 : τ6.2.1 14 = σ.2.1 14 := (g14_τ6).trans G14
  have G15 : τ6.2.1 15 = σ.2.1 15 := (g15_τ6).trans G15
  have G16 : τ6.2.1 16 = σ.2.1 16 := (g16_τ6).trans G16
  have G27 : τ6.2.1 27 = σ.2.1 27 := (g27_τ6).trans G27
  have G28 : τ6.2.1 28 = σ.2.1 28 := (g28_τ6).trans G28
  have G29 : τ6.2.1 29 = σ.2.1 29 := (g29_τ6).trans G29
  have G30 : τ6.2.1 30 = σ.2.1 30 := (g30_τ6).trans G30
  have G31 : τ6.2.1 31 = σ.2.1 31 := (g31_τ6).trans G31
  have G32 : τ6.2.1 32 = σ.2.1 32 := (g32_τ6).trans G32
  have G33 : τ6.2.1 33 = σ.2.1 33 := (g33_τ6).trans G33
  have G34 : τ6.2.1 34 = σ.2.1 34 := (g34_τ6).trans G34
  have G35 : τ6.2.1 35 = σ.2.1 35 := (g35_τ6).trans G35
  have G36 : τ6.2.1 36 = σ.2.1 36 := (g36_τ6).trans G36
  have G37 : τ6.2.1 37 = σ.2.1 37 := (g37_τ6).trans G37
  have CJ : J_all (τ6.1 7) (τ6.1 6) (τ6.1 13) (τ6.1 14) (τ6.1 15) (τ6.2.1 13) (τ6.2.1 14) (τ6.2.1 15) (τ6.2.1 16) (τ6.2.1 10) (τ6.2.1 27) (τ6.2.1 28) (τ6.2.1 29) (τ6.2.1 30) (τ6.2.1 31) (τ6.2.1 32) (τ6.2.1 33) (τ6.2.1 34) (τ6.2.1 35) (τ6.2.1 36) (τ6.2.1 37) := by rw [show (J_all (τ6.1 7) (τ6.1 6) (τ6.1 13) (τ6.1 14) (τ6.1 15) (τ6.2.1 13) (τ6.2.1 14) (τ6.2.1 15) (τ6.2.1 16) (τ6.2.1 10) (τ6.2.1 27) (τ6.2.1 28) (τ6.2.1 29) (τ6.2.1 30) (τ6.2.1 31) (τ6.2.1 32) (τ6.2.1 33) (τ6.2.1 34) (τ6.2.1 35) (τ6.2.1 36) (τ6.2.1 37)) = (J_all (τ3.1 7) (τ3.1 6) (τ3.1 13) (τ3.1 14) (τ3.1 15) (τ3.2.1 13) (τ3.2.1 14) (τ3.2.1 15) (τ3.2.1 16) (τ3.2.1 10) (τ3.2.1 27) (τ3.2.1 28) (τ3.2.1 29) (τ3.2.1 30) (τ3.2.1 31) (τ3.2.1 32) (τ3.2.1 33) (τ3.2.1 34) (τ3.2.1 35) (τ3.2.1 36) (τ3.2.1 37)) from by rw [w6_τ6, w7_τ6, w13_τ6, w14_τ6, w15_τ6, g10_τ6, g13_τ6, g14_τ6, g15_τ6, g16_τ6, g27_τ6, g28_τ6, g29_τ6, g30_τ6, g31_τ6, g32_τ6, g33_τ6, g34_τ6, g35_τ6, g36_τ6, g37_τ6]]; exact CJ
  have TR : J_tr (τ6.1 41) ((τ6.1 15) - 1 - (τ6.1 44)) (τ6.1 44) (τ6.2.1 62) (τ6.2.1 55) (τ6.2.1 36) := by rw [show (J_tr (τ6.1 41) ((τ6.1 15) - 1 - (τ6.1 44)) (τ6.1 44) (τ6.2.1 62) (τ6.2.1 55) (τ6.2.1 36)) = (J_tr (τ3.1 41) ((τ3.1 15) - 1 - (τ3.1 44)) (τ3.1 44) (τ3.2.1 62) (τ3.2.1 55) (τ3.2.1 36)) from by rw [w15_τ6, w41_τ6, w44_τ6, g36_τ6, g55_τ6, g62_τ6]]; exact TR
  have A10 : ∀ j, (-1) ≤ τ6.2.1 10 j ∧ τ6.2.1 10 j ≤ 99 := fun j => hT.2 10 j
  have A13 : ∀ j, 0 ≤ τ6.2.1 13 j ∧ τ6.2.1 13 j ≤ 4 := fun j => hT.2 13 j
  have A14 : ∀ j, 0 ≤ τ6.2.1 14 j ∧ τ6.2.1 14 j ≤ 30000 := fun j => hT.2 14 j
  have A15 : ∀ j, 0 ≤ τ6.2.1 15 j ∧ τ6.2.1 15 j ≤ 999 := fun j => hT.2 15 j
  have A16 : ∀ j, (-1) ≤ τ6.2.1 16 j ∧ τ6.2.1 16 j ≤ 1499 := fun j => hT.2 16 j
  have A27 : ∀ j, 0 ≤ τ6.2.1 27 j ∧ τ6.2.1 27 j ≤ 90000 := fun j => hT.2 27 j
  have A28 : ∀ j, 0 ≤ τ6.2.1 28 j ∧ τ6.2.1 28 j ≤ 60 := fun j => hT.2 28 j
  have A29 : ∀ j, 0 ≤ τ6.2.1 29 j ∧ τ6.2.1 29 j ≤ 1499 := fun j => hT.2 29 j
  have A30 : ∀ j, 0 ≤ τ6.2.1 30 j ∧ τ6.2.1 30 j ≤ 20000 := fun j => hT.2 30 j
  have A31 : ∀ j, 0 ≤ τ6.2.1 31 j ∧ τ6.2.1 31 j ≤ 20000 := fun j => hT.2 31 j
  have A32 : ∀ j, 0 ≤ τ6.2.1 32 j ∧ τ6.2.1 32 j ≤ 999999 := fun j => hT.2 32 j
  have A33 : ∀ j, 0 ≤ τ6.2.1 33 j ∧ τ6.2.1 33 j ≤ 20000 := fun j => hT.2 33 j
  have A34 : ∀ j, 0 ≤ τ6.2.1 34 j ∧ τ6.2.1 34 j ≤ 20000 := fun j => hT.2 34 j
  have A35 : ∀ j, 0 ≤ τ6.2.1 35 j ∧ τ6.2.1 35 j ≤ 1499 := fun j => hT.2 35 j
  have A36 : ∀ j, 0 ≤ τ6.2.1 36 j ∧ τ6.2.1 36 j ≤ 20000 := fun j => hT.2 36 j
  have A37 : ∀ j, 0 ≤ τ6.2.1 37 j ∧ τ6.2.1 37 j ≤ 19999 := fun j => hT.2 37 j
  have A55 : ∀ j, 0 ≤ τ6.2.1 55 j ∧ τ6.2.1 55 j ≤ 19999 := fun j => hT.2 55 j
  have A62 : ∀ j, (-20000) ≤ τ6.2.1 62 j ∧ τ6.2.1 62 j ≤ 19999 := fun j => hT.2 62 j
  have v6 : 0 ≤ τ6.1 6 ∧ τ6.1 6 ≤ 30000 := hT.1 6
  have v7 : 0 ≤ τ6.1 7 ∧ τ6.1 7 ≤ 1500 := hT.1 7
  have v13 : 0 ≤ τ6.1 13 ∧ τ6.1 13 ≤ 90000 := hT.1 13
  have v14 : 0 ≤ τ6.1 14 ∧ τ6.1 14 ≤ 20000 := hT.1 14
  have v15 : 0 ≤ τ6.1 15 ∧ τ6.1 15 ≤ 20000 := hT.1 15
  have v41 : 0 ≤ τ6.1 41 ∧ τ6.1 41 ≤ 20001 := hT.1 41
  have v43 : 0 ≤ τ6.1 43 ∧ τ6.1 43 ≤ 4000 := hT.1 43
  have v44 : 0 ≤ τ6.1 44 ∧ τ6.1 44 ≤ 20000 := hT.1 44
  refine ⟨fun c7 => ?_, fun c7 => ?_⟩
  ·
    refine ⟨_, K_X4_unpack hT (show 0 ≤ n1 from by (first | omega | (simp only [st_s] <;> omega) | assumption | omega | fail)) (show n1 < (τ6.1 7) from by (first | omega | (simp only [st_s] <;> omega) | assumption | omega | fail)) (show τ6.2.1 13 n1 = 3 from by (rw [G13]; exact p3)) (show J_all (τ6.1 7) (τ6.1 6) (τ6.1 13) (τ6.1 14) (τ6.1 15) (τ6.2.1 13) (τ6.2.1 14) (τ6.2.1 15) (τ6.2.1 16) (τ6.2.1 10) (τ6.2.1 27) (τ6.2.1 28) (τ6.2.1 29) (τ6.2.1 30) (τ6.2.1 31) (τ6.2.1 32) (τ6.2.1 33) (τ6.2.1 34) (τ6.2.1 35) (τ6.2.1 36) (τ6.2.1 37) from CJ), ?_⟩
    intro τ10 hn_τ10 hf_τ10 hq
    obtain ⟨hT, q8_1, q8_2, q8_3⟩ := hq
    replace q8_1 : J_tr (τ10.1 41) ((τ10.1 15) - 1 - (τ10.1 44)) (τ10.1 44) (τ10.2.1 62) (τ10.2.1 55) (τ10.2.1 36) := q8_1
    replace q8_2 : (τ10.1 44) = τ6.2.1 33 n1 := q8_2
    replace q8_3 : ∀ n : Int, 0 ≤ n → n < (τ10.1 41) → 0 ≤ τ10.2.1 62 n := q8_3
    have w6_τ10 : τ10.1 6 = τ6.1 6 := hf_τ10.1 6 (by decide)
    have w7_τ10 : τ10.1 7 = τ6.1 7 := hf_τ10.1 7 (by decide)
    have w13_τ10 : τ10.1 13 = τ6.1 13 := hf_τ10.1 13 (by decide)
    have w14_τ10 : τ10.1 14 = τ6.1 14 := hf_τ10.1 14 (by decide)
    have w15_τ10 : τ10.1 15 = τ6.1 15 := hf_τ10.1 15 (by decide)
    have w43_τ10 : τ10.1 43 = τ6.1 43 := hf_τ10.1 43 (by decide)
    have g10_τ10 : τ10.2.1 10 = τ6.2.1 10 := hf_τ10.2.1 10 (by decide)
    have g13_τ10 : τ10.2.1 13 = τ6.2.1 13 := hf_τ10.2.1 13 (by decide)
    have g14_τ10 : τ10.2.1 14 = τ6.2.1 14 := hf_τ10.2.1 14 (by decide)
    have g15_τ10 : τ10.2.1 15 = τ6.2.1 15 := hf_τ10.2.1 15 (by decide)
    have g16_τ10 : τ10.2.1 16 = τ6.2.1 16 := hf_τ10.2.1 16 (by decide)
    have g27_τ10 : τ10.2.1 27 = τ6.2.1 27 := hf_τ10.2.1 27 (by decide)
    have g28_τ10 : τ10.2.1 28 = τ6.2.1 28 := hf_τ10.2.1 28 (by decide)
    have g29_τ10 : τ10.2.1 29 = τ6.2.1 29 := hf_τ10.2.1 29 (by decide)
    have g30_τ10 : τ10.2.1 30 = τ6.2.1 30 := hf_τ10.2.1 30 (by decide)
    have g31_τ10 : τ10.2.1 31 = τ6.2.1 31 := hf_τ10.2.1 31 (by decide)
    have g32_τ10 : τ10.2.1 32 = τ6.2.1 32 := hf_τ10.2.1 32 (by decide)
    have g33_τ10 : τ10.2.1 33 = τ6.2.1 33 := hf_τ10.2.1 33 (by decide)
    have g34_τ10 : τ10.2.1 34 = τ6.2.1 34 := hf_τ10.2.1 34 (by decide)
    have g35_τ10 : τ10.2.1 35 = τ6.2.1 35 := hf_τ10.2.1 35 (by decide)
    have g36_τ10 : τ10.2.1 36 = τ6.2.1 36 := hf_τ10.2.1 36 (by decide)
    have g37_τ10 : τ10.2.1 37 = τ6.2.1 37 := hf_τ10.2.1 37 (by decide)
    have g55_τ10 : τ10.2.1 55 = τ6.2.1 55 := hf_τ10.2.1 55 (by decide)
    have W6 : τ10.1 6 = σ.1 6 := by first | exact w6_τ10.trans W6 | omega
    have W7 : τ10.1 7 = σ.1 7 := by first | exact w7_τ10.trans W7 | omega
    have W13 : τ10.1 13 = σ.1 13 := by first | exact w13_τ10.trans W13 | omega
    have W14 : τ10.1 14 = σ.1 14 := by first | exact w14_τ10.trans W14 | omega
    have W15 : τ10.1 15 = σ.1 15 := by first | exact w15_τ10.trans W15 | omega
    have G10 : τ10.2.1 10 = σ.2.1 10 := (g10_τ10).trans G10
    have G13 : τ10.2.1 13 = σ.2.1 13 := (g13_τ10).trans G13
    have G14 : τ10.2.1 14 = σ.2.1 14 := (g14_τ10).trans G14
    have G15 : τ10.2.1 15 = σ.2.1 15 := (g15_τ10).trans G15
    have G16 : τ10.2.1 16 = σ.2.1 16 := (g16_τ10).trans G16
    have G27 : τ10.2.1 27 = σ.2.1 27 := (g27_τ10).trans G27
    have G28 : τ10.2.1 28 = σ.2.1 28 := (g28_τ10).trans G28
    have G29 : τ10.2.1 29 = σ.2.1 29 := (g29_τ10).trans G29
    have G30 : τ10.2.1 30 = σ.2.1 30 := (g30_τ10).trans G30
    have G31 : τ10.2.1 31 = σ.2.1 31 := (g31_τ10).trans G31
    have G32 : τ10.2.1 32 = σ.2.1 32 := (g32_τ10).trans G32
    have G33 : τ10.2.1 33 = σ.2.1 33 := (g33_τ10).trans G33
    have G34 : τ10.2.1 34 = σ.2.1 34 := (g34_τ10).trans G34
    have G35 : τ10.2.1 35 = σ.2.1 35 := (g35_τ10).trans G35
    have G36 : τ10.2.1 36 = σ.2.1 36 := (g36_τ10).trans G36
    have G37 : τ10.2.1 37 = σ.2.1 37 := (g37_τ10).trans G37
    have CJ : J_all (τ10.1 7) (τ10.1 6) (τ10.1 13) (τ10.1 14) (τ10.1 15) (τ10.2.1 13) (τ10.2.1 14) (τ10.2.1 15) (τ10.2.1 16) (τ10.2.1 10) (τ10.2.1 27) (τ10.2.1 28) (τ10.2.1 29) (τ10.2.1 30) (τ10.2.1 31) (τ10.2.1 32) (τ10.2.1 33) (τ10.2.1 34) (τ10.2.1 35) (τ10.2.1 36) (τ10.2.1 37) := by rw [show (J_all (τ10.1 7) (τ10.1 6) (τ10.1 13) (τ10.1 14) (τ10.1 15) (τ10.2.1 13) (τ10.2.1 14) (τ10.2.1 15) (τ10.2.1 16) (τ10.2.1 10) (τ10.2.1 27) (τ10.2.1 28) (τ10.2.1 29) (τ10.2.1 30) (τ10.2.1 31) (τ10.2.1 32) (τ10.2.1 33) (τ10.2.1 34) (τ10.2.1 35) (τ10.2.1 36) (τ10.2.1 37)) = (J_all (τ6.1 7) (τ6.1 6) (τ6.1 13) (τ6.1 14) (τ6.1 15) (τ6.2.1 13) (τ6.2.1 14) (τ6.2.1 15) (τ6.2.1 16) (τ6.2.1 10) (τ6.2.1 27) (τ6.2.1 28) (τ6.2.1 29) (τ6.2.1 30) (τ6.2.1 31) (τ6.2.1 32) (τ6.2.1 33) (τ6.2.1 34) (τ6.2.1 35) (τ6.2.1 36) (τ6.2.1 37)) from by rw [w6_τ10, w7_τ10, w13_τ10, w14_τ10, w15_τ10, g10_τ10, g13_τ10, g14_τ10, g15_τ10, g16_τ10, g27_τ10, g28_τ10, g29_τ10, g30_τ10, g31_τ10, g32_τ10, g33_τ10, g34_τ10, g35_τ10, g36_τ10, g37_τ10]]; exact CJ
    have TR : J_tr (τ10.1 41) ((τ10.1 15) - 1 - (τ10.1 44)) (τ10.1 44) (τ10.2.1 62) (τ10.2.1 55) (τ10.2.1 36) := q8_1
    have A10 : ∀ j, (-1) ≤ τ10.2.1 10 j ∧ τ10.2.1 10 j ≤ 99 := fun j => hT.2 10 j
    have A13 : ∀ j, 0 ≤ τ10.2.1 13 j ∧ τ10.2.1 13 j ≤ 4 := fun j => hT.2 13 j
    have A14 : ∀ j, 0 ≤ τ10.2.1 14 j ∧ τ10.2.1 14 j ≤ 30000 := fun j => hT.2 14 j
    have A15 : ∀ j, 0 ≤ τ10.2.1 15 j ∧ τ10.2.1 15 j ≤ 999 := fun j => hT.2 15 j
    have A16 : ∀ j, (-1) ≤ τ10.2.1 16 j ∧ τ10.2.1 16 j ≤ 1499 := fun j => hT.2 16 j
    have A27 : ∀ j, 0 ≤ τ10.2.1 27 j ∧ τ10.2.1 27 j ≤ 90000 := fun j => hT.2 27 j
    have A28 : ∀ j, 0 ≤ τ10.2.1 28 j ∧ τ10.2.1 28 j ≤ 60 := fun j => hT.2 28 j
    have A29 : ∀ j, 0 ≤ τ10.2.1 29 j ∧ τ10.2.1 29 j ≤ 1499 := fun j => hT.2 29 j
    have A30 : ∀ j, 0 ≤ τ10.2.1 30 j ∧ τ10.2.1 30 j ≤ 20000 := fun j => hT.2 30 j
    have A31 : ∀ j, 0 ≤ τ10.2.1 31 j ∧ τ10.2.1 31 j ≤ 20000 := fun j => hT.2 31 j
    have A32 : ∀ j, 0 ≤ τ10.2.1 32 j ∧ τ10.2.1 32 j ≤ 999999 := fun j => hT.2 32 j
    have A33 : ∀ j, 0 ≤ τ10.2.1 33 j ∧ τ10.2.1 33 j ≤ 20000 := fun j => hT.2 33 j
    have A34 : ∀ j, 0 ≤ τ10.2.1 34 j ∧ τ10.2.1 34 j ≤ 20000 := fun j => hT.2 34 j
    have A35 : ∀ j, 0 ≤ τ10.2.1 35 j ∧ τ10.2.1 35 j ≤ 1499 := fun j => hT.2 35 j
    have A36 : ∀ j, 0 ≤ τ10.2.1 36 j ∧ τ10.2.1 36 j ≤ 20000 := fun j => hT.2 36 j
    have A37 : ∀ j, 0 ≤ τ10.2.1 37 j ∧ τ10.2.1 37 j ≤ 19999 := fun j => hT.2 37 j
    have A55 : ∀ j, 0 ≤ τ10.2.1 55 j ∧ τ10.2.1 55 j ≤ 19999 := fun j => hT.2 55 j
    have A62 : ∀ j, (-20000) ≤ τ10.2.1 62 j ∧ τ10.2.1 62 j ≤ 19999 := fun j => hT.2 62 j
    have v6 : 0 ≤ τ10.1 6 ∧ τ10.1 6 ≤ 30000 := hT.1 6
    have v7 : 0 ≤ τ10.1 7 ∧ τ10.1 7 ≤ 1500 := hT.1 7
    have v13 : 0 ≤ τ10.1 13 ∧ τ10.1 13 ≤ 90000 := hT.1 13
    have v14 : 0 ≤ τ10.1 14 ∧ τ10.1 14 ≤ 20000 := hT.1 14
    have v15 : 0 ≤ τ10.1 15 ∧ τ10.1 15 ≤ 20000 := hT.1 15
    have v41 : 0 ≤ τ10.1 41 ∧ τ10.1 41 ≤ 20001 := hT.1 41
    have v43 : 0 ≤ τ10.1 43 ∧ τ10.1 43 ≤ 4000 := hT.1 43
    have v44 : 0 ≤ τ10.1 44 ∧ τ10.1 44 ≤ 20000 := hT.1 44
    refine ⟨fun c11 => ?_, fun c11 => ?_⟩
    ·
      exact l_34 ((4001 - 0 : Int).toNat + 1) _ _ (show (4001 - 0 : Int) < (((4001 - 0 : Int).toNat + 1 : Nat) : Int) from by ((first | omega | (simp only [st_s] <;> omega) | assumption | omega | fail))) hT (show τ10.1 6 = σ.1 6 from by first | exact W6 | omega) (show τ10.1 7 = σ.1 7 from by first | exact W7 | omega) (show τ10.1 13 = σ.1 13 from by first | exact W13 | omega) (show τ10.1 14 = σ.1 14 from by first | exact W14 | omega) (show τ10.1 15 = σ.1 15 from by first | exact W15 | omega) G10 G13 G14 G15 G16 G27 G28 G29 G30 G31 G32 G33 G34 G35 G36 G37 (show 0 ≤ 0 from by (first | omega | (simp only [st_s] <;> omega) | assumption | omega | fail)) (show 0 ≤ 4000 from by (first | omega | (simp only [st_s] <;> omega) | assumption | omega | fail)) (show (τ10.1 41) ≤ 4000 from by (first | omega | (simp only [st_s] <;> omega) | assumption | omega | fail)) (show J_tr (τ10.1 41) ((τ10.1 15) - 1 - (τ10.1 44)) (τ10.1 44) (τ10.2.1 62) (τ10.2.1 55) (τ10.2.1 36) from TR)
    ·
      exact ⟨hT, (show 0 ≤ 0 ∧ 0 ≤ 1 from by (first | omega | (simp only [st_s] <;> omega) | assumption | omega | fail))⟩
  ·
    exact ⟨hT, (show 0 ≤ 0 ∧ 0 ≤ 1 from by (first | omega | (simp only [st_s] <;> omega) | assumption | omega | fail))⟩
set_option maxHeartbeats 1000000 in
theorem K_J7_fill_fda19_q58 {n1 : Int} {n2 : Int} {n3 : Int} {σ : S0} (hT : c_T σ) (p1 : 0 ≤ n1) (p2 : n1 ≤ n2) (p3 : n2 ≤ 20000) (p4 : n3 = 0) : W_J7_fill_fda19_q58 n1 n2 n3 σ (fun (τ : S0) => (c_T τ) ∧ (∀ e : Int, n1 ≤ e → e < n2 → τ.2.1 42 e = n3)) := by
  intro P10 h10
  have l_10 : ∀ (m_10 : Nat) (u4_10 : Int) (τ_10 : S0), 20001 + 20001 - u4_10 < (m_10 : Int) → (c_T τ_10) → (n1 ≤ u4_10) → (u4_10 ≤ n2) → (∀ e : Int, n1 ≤ e → e < u4_10 → τ_10.2.1 42 e = n3) → P10 n2 n3 u4_10 τ_10 := by
    intro m_10
    induction m_10 with
    | zero =>
      intro u4_10 τ_10 hm hT i10_1 i10_2 i10_3
      exfalso; (first | omega | (simp only [st_s] <;> omega) | assumption | omega | fail)
    | succ m_10 ih_10 =>
      intro u4_10 τ_10 hm_10 hT i10_1 i10_2 i10_3
      refine h10 n2 n3 u4_10 τ_10 ?_
      refine ⟨fun c4 => ?_, fun c4 => ?_⟩
      ·
        exact ⟨hT, (show ∀ e : Int, n1 ≤ e → e < n2 → τ_10.2.1 42 e = n3 from by exact fun e a b => i10_3 e a (by omega))⟩
      ·
        refine ⟨(show 0 ≤ u4_10 ∧ u4_10 < 20000 from by (first | omega | (simp only [st_s] <;> omega) | assumption | omega | fail)), ?_⟩
        replace hT := cT_a (k := 42) (j := u4_10) hT (show (-2147483648 : Int) ≤ n3 ∧ n3 ≤ 2147483647 from by (first | omega | (simp only [st_s] <;> omega) | assumption | omega | fail))
        refine ⟨(⟨by (first | omega | (simp only [st_s] <;> omega) | assumption | omega | fail), by (first | omega | (simp only [st_s] <;> omega) | assumption | omega | fail)⟩ : rg (u4_10 + 1)), ?_⟩
        exact ih_10 _ _ (show (20001 + 20001 - (u4_10 + 1) : Int) < ((m_10 : Nat) : Int) from by ((first | omega | (simp only [st_s] <;> omega) | assumption | omega | fail))) hT (show n1 ≤ (u4_10 + 1) from by (first | omega | (simp only [st_s] <;> omega) | assumption | omega | fail)) (show (u4_10 + 1) ≤ n2 from by (first | omega | (simp only [st_s] <;> omega) | assumption | omega | fail)) (show ∀ e : Int, n1 ≤ e → e < (u4_10 + 1) → (st (τ_10.2.1 42) u4_10 n3) e = n3 from by (first | (intro e a b; exfalso; omega) | (intro e a b; by_cases z : e = u4_10; (rw [z, st_s]); exact (st_n _ _ z).trans (i10_3 e a (by omega))) | fail))
  refine ⟨_, K_J7_rangeCheck_23922 hT (show 0 ≤ n1 from by (first | omega | (simp only [st_s] <;> omega) | assumption | omega | fail)) (show n1 ≤ n2 from by (first | omega | (simp only [st_s] <;> omega) | assumption | omega | fail)) (show n2 ≤ (20000 : Int) from by (first | omega | (simp only [st_s] <;> omega) | assumption | omega | fail)), ?_⟩
  intro τ3 hn_τ3 hf_τ3 hq
  replace hT := hq
  exact l_10 ((20001 + 20001 - n1 : Int).toNat + 1) _ _ (show (20001 + 20001 - n1 : Int) < (((20001 + 20001 - n1 : Int).toNat + 1 : Nat) : Int) from by ((first | omega | (simp only [st_s] <;> omega) | assumption | omega | fail))) hT (show n1 ≤ n1 from by (first | omega | (simp only [st_s] <;> omega) | assumption | omega | fail)) (show n1 ≤ n2 from by (first | omega | (simp only [st_s] <;> omega) | assumption | omega | fail)) (show ∀ e : Int, n1 ≤ e → e < n1 → τ3.2.1 42 e = n3 from by (first | (intro e a b; exfalso; omega) | (intro e a b; by_cases z : e = u4_10; (rw [z, st_s]); exact (st_n _ _ z).trans (i10_3 e a (by omega))) | fail))
