-- pure: proofs packed anew
theorem st_st (f : Int → Int) (e x y : Int) : st (st f e x) e y = st f e y := by
  funext j
  by_cases z : j = e
  · rw [z, st_s, st_s]
  · rw [st_n _ _ z, st_n _ _ z, st_n _ _ z]
/-- rows of a proof, from b on -/
def J_pk (b cnt : Int) (kd fs rs ca ch : Int → Int) : Prop := (0 ≤ b ∧ 1 ≤ cnt ∧ b + cnt ≤ 20000) ∧ ∀ r : Int, 0 ≤ r → r < cnt → ca (b + r + 1) = ca (b + r) + (if 2 ≤ kd (rs (b + r)) then fs (rs (b + r)) else 0) ∧ ∀ c : Int, ca (b + r) ≤ c → c < ca (b + r + 1) → ch c < r
theorem J_pk_r {i ru : Int} {kd fs ra rc rs ca ch : Int → Int} (h : J_r i ru kd fs ra rc rs ca ch) (r0 : 0 ≤ ra i) (u : ru ≤ 20000) : J_pk (ra i) (rc i) kd fs rs ca ch := by
  refine ⟨⟨r0, h.1.1, by have := h.1.2; omega⟩, fun r a b => ?_⟩
  obtain ⟨h1, h2, h3⟩ := h.2 (ra i + r) (by omega) (by omega)
  exact ⟨h2, fun c c0 c1 => by have := h3 c c0 c1; omega⟩
theorem J_pk_m {b cnt r : Int} {kd fs rs ca ch : Int → Int} (h : J_pk b cnt kd fs rs ca ch) (f0 : ∀ j, 0 ≤ fs j) (a : 0 ≤ r) (c : r < cnt) : ca (b + r) ≤ ca (b + r + 1) := by
  have := (h.2 r a c).1
  have f := f0 (rs (b + r))
  by_cases z : 2 ≤ kd (rs (b + r))
  · rw [if_pos z] at this; omega
  · rw [if_neg z] at this; omega
theorem J_pk_w {b cnt r s : Int} {kd fs rs ca ch : Int → Int} (h : J_pk b cnt kd fs rs ca ch) (a : 0 ≤ r) (c : r < cnt) (d : 0 ≤ s) (e : s < cnt) (q : rs (b + r) = rs (b + s)) : ca (b + r + 1) - ca (b + r) = ca (b + s + 1) - ca (b + s) := by
  have x := (h.2 r a c).1
  have y := (h.2 s d e).1
  rw [q] at x
  omega
/-- rows that are the same stand not behind -/
def J_sa (n : Int) (same : Int → Int) : Prop := ∀ r : Int, 0 ≤ r → r < n → 0 ≤ same r ∧ same r ≤ r
theorem J_sa_a {n x : Int} {same : Int → Int} (h : J_sa n same) (x0 : 0 ≤ x) (x1 : x ≤ n) : J_sa (n + 1) (st same n x) := fun r a b => by
  by_cases z : r = n
  · rw [z, st_s]; exact ⟨x0, x1⟩
  · rw [st_n _ _ z]; exact h r a (by omega)
/-- chains of rows, each the first of its like -/
def J_hd (n mask : Int) (same hd nx : Int → Int) : Prop := (∀ b : Int, 0 ≤ b → b ≤ mask → hd b ≤ n ∧ (0 < hd b → same (hd b - 1) = hd b - 1)) ∧ ∀ r : Int, 0 ≤ r → r < n → same r = r → nx r ≤ r ∧ (0 < nx r → same (nx r - 1) = nx r - 1)
theorem J_hd_n {n mask b : Int} {same hd nx : Int → Int} (h : J_hd n mask same hd nx) (b0 : 0 ≤ b) (b1 : b ≤ mask) (n0 : 0 ≤ n) (h0 : ∀ j, 0 ≤ hd j) (n1 : ∀ j, 0 ≤ nx j) : J_hd (n + 1) mask (st same n n) (st hd b (n + 1)) (st nx n (hd b)) := by
  have old : ∀ x : Int, 0 < x → x ≤ n → same (x - 1) = x - 1 → st same n n (x - 1) = x - 1 := fun x a c d => by rw [st_n _ _ (show x - 1 ≠ n from by omega)]; exact d
  refine ⟨fun c c0 c1 => ?_, fun r r0 r1 r2 => ?_⟩
  · by_cases z : c = b
    · rw [z, st_s]; exact ⟨Int.le_refl _, fun _ => by rw [show n + 1 - 1 = n from by omega, st_s]⟩
    · rw [st_n _ _ z]; have w := h.1 c c0 c1; exact ⟨by omega, fun q => old _ q w.1 (w.2 q)⟩
  · by_cases z : r = n
    · rw [z, st_s]; have w := h.1 b b0 b1; exact ⟨w.1, fun q => old _ q w.1 (w.2 q)⟩
    · rw [st_n _ _ z] at r2 ⊢; have w := h.2 r r0 (by omega) r2; exact ⟨w.1, fun q => old _ q (by omega) (w.2 q)⟩
theorem J_hd_d {n mask x : Int} {same hd nx : Int → Int} (h : J_hd n mask same hd nx) (x1 : x < n) : J_hd (n + 1) mask (st same n x) hd nx := by
  have old : ∀ y : Int, 0 < y → y ≤ n → same (y - 1) = y - 1 → st same n x (y - 1) = y - 1 := fun y a c d => by rw [st_n _ _ (show y - 1 ≠ n from by omega)]; exact d
  refine ⟨fun c c0 c1 => ?_, fun r r0 r1 r2 => ?_⟩
  · have w := h.1 c c0 c1; exact ⟨by omega, fun q => old _ q w.1 (w.2 q)⟩
  · by_cases z : r = n
    · rw [z, st_s] at r2; omega
    · rw [st_n _ _ z] at r2; have w := h.2 r r0 (by omega) r2; exact ⟨w.1, fun q => old _ q (by omega) (w.2 q)⟩
/-- what is told: rows, or such that were told before -/
def J_tr (tc rt b : Int) (told same ca : Int → Int) : Prop := ∀ n : Int, 0 ≤ n → n < tc → (0 ≤ told n ∧ told n ≤ rt) ∨ (told n < 0 ∧ ∃ m : Int, 0 ≤ m ∧ m < n ∧ 0 ≤ told m ∧ told m ≤ rt ∧ ca (b + told m) < ca (b + told m + 1) ∧ same (told m) = -1 - told n)
theorem J_tr0 (rt b : Int) (told same ca : Int → Int) : J_tr 0 rt b told same ca := fun n a c => by omega
theorem J_tr_a {tc rt b x : Int} {told same ca : Int → Int} (h : J_tr tc rt b told same ca) (hx : (0 ≤ x ∧ x ≤ rt) ∨ (x < 0 ∧ ∃ m : Int, 0 ≤ m ∧ m < tc ∧ 0 ≤ told m ∧ told m ≤ rt ∧ ca (b + told m) < ca (b + told m + 1) ∧ same (told m) = -1 - x)) : J_tr (tc + 1) rt b (st told tc x) same ca := fun n a c => by
  by_cases z : n = tc
  · rw [z, st_s]
    rcases hx with q | ⟨q, m, m0, m1, m2, m3, m4, m5⟩
    · exact Or.inl q
    · exact Or.inr ⟨q, m, m0, m1, by rw [st_n _ _ (show m ≠ tc from by omega)]; exact ⟨m2, m3, m4, m5⟩⟩
  · rw [st_n _ _ z]
    rcases h n a (by omega) with q | ⟨q, m, m0, m1, m2, m3, m4, m5⟩
    · exact Or.inl q
    · exact Or.inr ⟨q, m, m0, m1, by rw [st_n _ _ (show m ≠ tc from by omega)]; exact ⟨m2, m3, m4, m5⟩⟩
/-- classes that were told -/
def J_tl (tc rt b : Int) (told same ca tl : Int → Int) : Prop := ∀ r : Int, 0 ≤ r → r ≤ rt → 0 < tl r → ∃ m : Int, 0 ≤ m ∧ m < tc ∧ 0 ≤ told m ∧ told m ≤ rt ∧ ca (b + told m) < ca (b + told m + 1) ∧ same (told m) = r
theorem J_tl_t {tc rt b x : Int} {told same ca tl : Int → Int} (h : J_tl tc rt b told same ca tl) : J_tl (tc + 1) rt b (st told tc x) same ca tl := fun r a c d => by
  obtain ⟨m, m0, m1, m2⟩ := h r a c d
  exact ⟨m, m0, by omega, by rw [st_n _ _ (show m ≠ tc from by omega)]; exact m2⟩
theorem J_tl_s {tc rt b e x : Int} {told same ca tl : Int → Int} (h : J_tl tc rt b told same ca tl) (he : 0 < x → ∃ m : Int, 0 ≤ m ∧ m < tc ∧ 0 ≤ told m ∧ told m ≤ rt ∧ ca (b + told m) < ca (b + told m + 1) ∧ same (told m) = e) : J_tl tc rt b told same ca (st tl e x) := fun r a c d => by
  by_cases z : r = e
  · rw [z, st_s] at d; rw [z]; exact he d
  · rw [st_n _ _ z] at d; exact h r a c d
set_option maxHeartbeats 1000000 in
theorem K_J7_rangeCheck_23922 {n0 : Int} {n1 : Int} {n2 : Int} {σ : S0} (hT : c_T σ) (p1 : 0 ≤ n1) (p2 : n1 ≤ n2) (p3 : n2 ≤ n0) : W_J7_rangeCheck_23922 n0 n1 n2 σ (fun (τ : S0) => True) := by
  unfold W_J7_rangeCheck_23922
  refine ⟨fun c1 => ?_, fun c1 => ?_⟩
  ·
    refine ⟨fun c2 => ?_, fun c2 => ?_⟩
    ·
      refine ⟨fun c3 => ?_, fun c3 => ?_⟩
      ·
        exact trivial
      ·
        exfalso; J_dt σ.P_low σ.P_high σ.T_rows (σ.P_data) (σ.P_at) (σ.P_size)
    ·
      exfalso; J_dt σ.P_low σ.P_high σ.T_rows (σ.P_data) (σ.P_at) (σ.P_size)
  ·
    exfalso; J_dt σ.P_low σ.P_high σ.T_rows (σ.P_data) (σ.P_at) (σ.P_size)
set_option maxHeartbeats 1000000 in
theorem K_J7_fill_fda19_q72 {n1 : Int} {n2 : Int} {n3 : Int} {σ : S0} (hT : c_T σ) (p1 : 0 ≤ n1) (p2 : n1 ≤ n2) (p3 : n2 ≤ 32768) (p4 : n3 = 0) : W_J7_fill_fda19_q72 n1 n2 n3 σ (fun (τ : S0) => (c_T τ) ∧ (∀ e : Int, n1 ≤ e → e < n2 → τ.2.1 56 e = n3)) := by
  intro P10 h10
  have l_10 : ∀ (m_10 : Nat) (u4_10 : Int) (τ_10 : S0), 20001 + 20001 - u4_10 < (m_10 : Int) → (c_T τ_10) → (n1 ≤ u4_10) → (u4_10 ≤ n2) → (∀ e : Int, n1 ≤ e → e < u4_10 → τ_10.2.1 56 e = n3) → P10 n2 n3 u4_10 τ_10 := by
    intro m_10
    induction m_10 with
    | zero =>
      intro u4_10 τ_10 hm hT i10_1 i10_2 i10_3
      exfalso; J_dt σ.P_low σ.P_high σ.T_rows (σ.P_data) (σ.P_at) (σ.P_size)
    | succ m_10 ih_10 =>
      intro u4_10 τ_10 hm_10 hT i10_1 i10_2 i10_3
      refine h10 n2 n3 u4_10 τ_10 ?_
      refine ⟨fun c4 => ?_, fun c4 => ?_⟩
      ·
        exact ⟨hT, (show ∀ e : Int, n1 ≤ e → e < n2 → τ_10.2.1 56 e = n3 from by exact fun e a b => i10_3 e a (by omega))⟩
      ·
        refine ⟨(show 0 ≤ u4_10 ∧ u4_10 < 32768 from by J_dt σ.P_low σ.P_high σ.T_rows (σ.P_data) (σ.P_at) (σ.P_size)), ?_⟩
        replace hT := cT_a (k := 56) (j := u4_10) hT (show (0 : Int) ≤ n3 ∧ n3 ≤ 20000 from by J_dt σ.P_low σ.P_high σ.T_rows (σ.P_data) (σ.P_at) (σ.P_size))
        refine ⟨(⟨by J_dt σ.P_low σ.P_high σ.T_rows (σ.P_data) (σ.P_at) (σ.P_size), by J_dt σ.P_low σ.P_high σ.T_rows (σ.P_data) (σ.P_at) (σ.P_size)⟩ : rg (u4_10 + 1)), ?_⟩
        exact ih_10 _ _ (show (20001 + 20001 - (u4_10 + 1) : Int) < ((m_10 : Nat) : Int) from by (J_dt σ.P_low σ.P_high σ.T_rows (σ.P_data) (σ.P_at) (σ.P_size))) hT (show n1 ≤ (u4_10 + 1) from by J_dt σ.P_low σ.P_high σ.T_rows (σ.P_data) (σ.P_at) (σ.P_size)) (show (u4_10 + 1) ≤ n2 from by J_dt σ.P_low σ.P_high σ.T_rows (σ.P_data) (σ.P_at) (σ.P_size)) (show ∀ e : Int, n1 ≤ e → e < (u4_10 + 1) → (st (τ_10.2.1 56) u4_10 n3) e = n3 from by (first | (intro e a b; exfalso; omega) | (intro e a b; by_cases z : e = u4_10; (rw [z, st_s]); exact (st_n _ _ z).trans (i10_3 e a (by omega)))))
  refine ⟨_, K_J7_rangeCheck_23922 hT (show 0 ≤ n1 from by J_dt σ.P_low σ.P_high σ.T_rows (σ.P_data) (σ.P_at) (σ.P_size)) (show n1 ≤ n2 from by J_dt σ.P_low σ.P_high σ.T_rows (σ.P_data) (σ.P_at) (σ.P_size)) (show n2 ≤ 32768 from by J_dt σ.P_low σ.P_high σ.T_rows (σ.P_data) (σ.P_at) (σ.P_size)), ?_⟩
  intro τ3 hn_τ3 hf_τ3 hq
  replace hT := hq
  exact l_10 ((20001 + 20001 - n1 : Int).toNat + 1) _ _ (show (20001 + 20001 - n1 : Int) < (((20001 + 20001 - n1 : Int).toNat + 1 : Nat) : Int) from by (J_dt σ.P_low σ.P_high σ.T_rows (σ.P_data) (σ.P_at) (σ.P_size))) hT (show n1 ≤ n1 from by J_dt σ.P_low σ.P_high σ.T_rows (σ.P_data) (σ.P_at) (σ.P_size)) (show n1 ≤ n2 from by J_dt σ.P_low σ.P_high σ.T_rows (σ.P_data) (σ.P_at) (σ.P_size)) (show ∀ e : Int, n1 ≤ e → e < n1 → τ3.2.1 56 e = n3 from by (first | (intro e a b; exfalso; omega) | (intro e a b; by_cases z : e = u4_10; (rw [z, st_s]); exact (st_n _ _ z).trans (i10_3 e a (by omega)))))
set_option maxHeartbeats 1000000 in
theorem K_X4_hash {n1 : Int} {σ : S0} (hT : c_T σ) (p1 : 0 ≤ n1) (p2 : (σ.1 44) + n1 < 20000) : W_X4_hash n1 σ (fun (x : Int) => True) := by
  have v44 : 0 ≤ σ.1 44 ∧ σ.1 44 ≤ 20000 := hT.1 44
  intro P30 h30
  have l_30 : ∀ (m_30 : Nat) (u2_30 : Int) (u3_30 : Int), 20001 - u3_30 < (m_30 : Int) → (0 ≤ u3_30) → (u3_30 ≤ 20000) → P30 n1 u2_30 u3_30 := by
    intro m_30
    induction m_30 with
    | zero =>
      intro u2_30 u3_30 hm i30_1 i30_2
      exfalso; J_dt σ.P_low σ.P_high σ.T_rows (σ.P_data) (σ.P_at) (σ.P_size)
    | succ m_30 ih_30 =>
      intro u2_30 u3_30 hm_30 i30_1 i30_2
      refine h30 n1 u2_30 u3_30 ?_
      refine ⟨(show 0 ≤ ((σ.1 44 + n1) + 1) ∧ ((σ.1 44 + n1) + 1) < 20001 from by J_dt σ.P_low σ.P_high σ.T_rows (σ.P_data) (σ.P_at) (σ.P_size)), ?_⟩
      intro x6 r_x6 e_x6
      have b_x6 : 0 ≤ x6 ∧ x6 ≤ 20000 := by rw [e_x6]; exact hT.2 36 _
      refine ⟨fun c7 => ?_, fun c7 => ?_⟩
      ·
        intro x8 r_x8
        intro x9 r_x9
        exact trivial
      ·
        refine ⟨(show 0 ≤ u3_30 ∧ u3_30 < 20000 from by J_dt σ.P_low σ.P_high σ.T_rows (σ.P_data) (σ.P_at) (σ.P_size)), ?_⟩
        intro x11 r_x11 e_x11
        have b_x11 : 0 ≤ x11 ∧ x11 ≤ 19999 := by rw [e_x11]; exact hT.2 37 _
        refine ⟨(show 0 ≤ x11 ∧ x11 < 20000 from by J_dt σ.P_low σ.P_high σ.T_rows (σ.P_data) (σ.P_at) (σ.P_size)), ?_⟩
        intro x13 r_x13 e_x13
        have b_x13 : 0 ≤ x13 ∧ x13 ≤ 19999 := by rw [e_x13]; exact hT.2 55 _
        intro x14 r_x14
        refine ⟨(⟨by J_dt σ.P_low σ.P_high σ.T_rows (σ.P_data) (σ.P_at) (σ.P_size), by J_dt σ.P_low σ.P_high σ.T_rows (σ.P_data) (σ.P_at) (σ.P_size)⟩ : rg (u3_30 + 1)), ?_⟩
        exact ih_30 _ _ (show (20001 - (u3_30 + 1) : Int) < ((m_30 : Nat) : Int) from by (J_dt σ.P_low σ.P_high σ.T_rows (σ.P_data) (σ.P_at) (σ.P_size))) (show 0 ≤ (u3_30 + 1) from by J_dt σ.P_low σ.P_high σ.T_rows (σ.P_data) (σ.P_at) (σ.P_size)) (show (u3_30 + 1) ≤ 20000 from by J_dt σ.P_low σ.P_high σ.T_rows (σ.P_data) (σ.P_at) (σ.P_size))
  refine ⟨(show 0 ≤ (σ.1 44 + n1) ∧ (σ.1 44 + n1) < 20000 from by J_dt σ.P_low σ.P_high σ.T_rows (σ.P_data) (σ.P_at) (σ.P_size)), ?_⟩
  intro x2 r_x2 e_x2
  have b_x2 : 0 ≤ x2 ∧ x2 ≤ 1499 := by rw [e_x2]; exact hT.2 35 _
  refine ⟨(show 0 ≤ (σ.1 44 + n1) ∧ (σ.1 44 + n1) < 20001 from by J_dt σ.P_low σ.P_high σ.T_rows (σ.P_data) (σ.P_at) (σ.P_size)), ?_⟩
  intro x4 r_x4 e_x4
  have b_x4 : 0 ≤ x4 ∧ x4 ≤ 20000 := by rw [e_x4]; exact hT.2 36 _
  exact l_30 ((20001 - x4 : Int).toNat + 1) _ _ (show (20001 - x4 : Int) < (((20001 - x4 : Int).toNat + 1 : Nat) : Int) from by (J_dt σ.P_low σ.P_high σ.T_rows (σ.P_data) (σ.P_at) (σ.P_size))) (show 0 ≤ x4 from by J_dt σ.P_low σ.P_high σ.T_rows (σ.P_data) (σ.P_at) (σ.P_size)) (show x4 ≤ 20000 from by J_dt σ.P_low σ.P_high σ.T_rows (σ.P_data) (σ.P_at) (σ.P_size))
set_option maxHeartbeats 1000000 in
theorem K_X4_isAlike {n1 : Int} {n2 : Int} {σ : S0} (hT : c_T σ) (p1 : 0 ≤ n1) (p2 : (σ.1 44) + n1 < 20000) (p3 : 0 ≤ n2) (p4 : (σ.1 44) + n2 < 20000) (p5 : σ.2.1 36 ((σ.1 44) + n1) ≤ σ.2.1 36 ((σ.1 44) + n1 + 1)) (p6 : σ.2.1 35 ((σ.1 44) + n1) = σ.2.1 35 ((σ.1 44) + n2) → σ.2.1 36 ((σ.1 44) + n2) + (σ.2.1 36 ((σ.1 44) + n1 + 1) - σ.2.1 36 ((σ.1 44) + n1)) ≤ 20000) : W_X4_isAlike n1 n2 σ (fun (x : Int) => (0 ≤ x ∧ x ≤ 1)) := by
  have A35 : ∀ j, 0 ≤ σ.2.1 35 j ∧ σ.2.1 35 j ≤ 1499 := fun j => hT.2 35 j
  have A36 : ∀ j, 0 ≤ σ.2.1 36 j ∧ σ.2.1 36 j ≤ 20000 := fun j => hT.2 36 j
  have v44 : 0 ≤ σ.1 44 ∧ σ.1 44 ≤ 20000 := hT.1 44
  intro P67 h67
  have c1 := A36 (σ.1 44 + n1 + 1)
  have l_67 : ∀ (m_67 : Nat) (u3_67 : Int) (u4_67 : Int) (u5_67 : Int), 20001 - u5_67 < (m_67 : Int) → (u3_67 = σ.2.1 36 ((σ.1 44) + n1)) → (u4_67 = σ.2.1 36 ((σ.1 44) + n2)) → (0 ≤ u5_67) → (u5_67 ≤ 20000) → (u4_67 + (σ.2.1 36 ((σ.1 44) + n1 + 1) - u3_67) ≤ 20000) → P67 n1 u3_67 u4_67 u5_67 := by
    intro m_67
    induction m_67 with
    | zero =>
      intro u3_67 u4_67 u5_67 hm i67_1 i67_2 i67_3 i67_4 i67_5
      exfalso; J_dt σ.P_low σ.P_high σ.T_rows (σ.P_data) (σ.P_at) (σ.P_size)
    | succ m_67 ih_67 =>
      intro u3_67 u4_67 u5_67 hm_67 i67_1 i67_2 i67_3 i67_4 i67_5
      refine h67 n1 u3_67 u4_67 u5_67 ?_
      refine ⟨(⟨by J_dt σ.P_low σ.P_high σ.T_rows (σ.P_data) (σ.P_at) (σ.P_size), by J_dt σ.P_low σ.P_high σ.T_rows (σ.P_data) (σ.P_at) (σ.P_size)⟩ : rg (σ.1 44 + n1)), ?_⟩
      refine ⟨_, K_X0_childCount hT (show 0 ≤ (σ.1 44 + n1) from by J_dt σ.P_low σ.P_high σ.T_rows (σ.P_data) (σ.P_at) (σ.P_size)) (show (σ.1 44 + n1) < 20000 from by J_dt σ.P_low σ.P_high σ.T_rows (σ.P_data) (σ.P_at) (σ.P_size)), ?_⟩
      intro x12 r_x12 hq
      have q11_1 := hq
      replace q11_1 : x12 = σ.2.1 36 ((σ.1 44 + n1) + 1) - σ.2.1 36 (σ.1 44 + n1) := q11_1
      refine ⟨fun c14 => ?_, fun c14 => ?_⟩
      ·
        exact (show 0 ≤ 1 ∧ 1 ≤ 1 from by J_dt σ.P_low σ.P_high σ.T_rows (σ.P_data) (σ.P_at) (σ.P_size))
      ·
        refine ⟨(show 0 ≤ (u3_67 + u5_67) ∧ (u3_67 + u5_67) < 20000 from by J_dt σ.P_low σ.P_high σ.T_rows (σ.P_data) (σ.P_at) (σ.P_size)), ?_⟩
        intro x16 r_x16 e_x16
        have b_x16 : 0 ≤ x16 ∧ x16 ≤ 19999 := by rw [e_x16]; exact hT.2 37 _
        refine ⟨(show 0 ≤ x16 ∧ x16 < 20000 from by J_dt σ.P_low σ.P_high σ.T_rows (σ.P_data) (σ.P_at) (σ.P_size)), ?_⟩
        intro x18 r_x18 e_x18
        have b_x18 : 0 ≤ x18 ∧ x18 ≤ 19999 := by rw [e_x18]; exact hT.2 55 _
        refine ⟨(show 0 ≤ (u4_67 + u5_67) ∧ (u4_67 + u5_67) < 20000 from by J_dt σ.P_low σ.P_high σ.T_rows (σ.P_data) (σ.P_at) (σ.P_size)), ?_⟩
        intro x20 r_x20 e_x20
        have b_x20 : 0 ≤ x20 ∧ x20 ≤ 19999 := by rw [e_x20]; exact hT.2 37 _
        refine ⟨(show 0 ≤ x20 ∧ x20 < 20000 from by J_dt σ.P_low σ.P_high σ.T_rows (σ.P_data) (σ.P_at) (σ.P_size)), ?_⟩
        intro x22 r_x22 e_x22
        have b_x22 : 0 ≤ x22 ∧ x22 ≤ 19999 := by rw [e_x22]; exact hT.2 55 _
        refine ⟨fun c23 => ?_, fun c23 => ?_⟩
        ·
          refine ⟨(⟨by J_dt σ.P_low σ.P_high σ.T_rows (σ.P_data) (σ.P_at) (σ.P_size), by J_dt σ.P_low σ.P_high σ.T_rows (σ.P_data) (σ.P_at) (σ.P_size)⟩ : rg (u5_67 + 1)), ?_⟩
          exact ih_67 _ _ _ (show (20001 - (u5_67 + 1) : Int) < ((m_67 : Nat) : Int) from by (J_dt σ.P_low σ.P_high σ.T_rows (σ.P_data) (σ.P_at) (σ.P_size))) (show u3_67 = σ.2.1 36 ((σ.1 44) + n1) from by J_dt σ.P_low σ.P_high σ.T_rows (σ.P_data) (σ.P_at) (σ.P_size)) (show u4_67 = σ.2.1 36 ((σ.1 44) + n2) from by J_dt σ.P_low σ.P_high σ.T_rows (σ.P_data) (σ.P_at) (σ.P_size)) (show 0 ≤ (u5_67 + 1) from by J_dt σ.P_low σ.P_high σ.T_rows (σ.P_data) (σ.P_at) (σ.P_size)) (show (u5_67 + 1) ≤ 20000 from by J_dt σ.P_low σ.P_high σ.T_rows (σ.P_data) (σ.P_at) (σ.P_size)) (show u4_67 + (σ.2.1 36 ((σ.1 44) + n1 + 1) - u3_67) ≤ 20000 from by J_dt σ.P_low σ.P_high σ.T_rows (σ.P_data) (σ.P_at) (σ.P_size))
        ·
          exact (show 0 ≤ 0 ∧ 0 ≤ 1 from by J_dt σ.P_low σ.P_high σ.T_rows (σ.P_data) (σ.P_at) (σ.P_size))
  refine ⟨(show 0 ≤ (σ.1 44 + n1) ∧ (σ.1 44 + n1) < 20000 from by J_dt σ.P_low σ.P_high σ.T_rows (σ.P_data) (σ.P_at) (σ.P_size)), ?_⟩
  intro x2 r_x2 e_x2
  have b_x2 : 0 ≤ x2 ∧ x2 ≤ 1499 := by rw [e_x2]; exact hT.2 35 _
  refine ⟨(show 0 ≤ (σ.1 44 + n2) ∧ (σ.1 44 + n2) < 20000 from by J_dt σ.P_low σ.P_high σ.T_rows (σ.P_data) (σ.P_at) (σ.P_size)), ?_⟩
  intro x4 r_x4 e_x4
  have b_x4 : 0 ≤ x4 ∧ x4 ≤ 1499 := by rw [e_x4]; exact hT.2 35 _
  refine ⟨fun c5 => ?_, fun c5 => ?_⟩
  ·
    refine ⟨(show 0 ≤ (σ.1 44 + n1) ∧ (σ.1 44 + n1) < 20001 from by J_dt σ.P_low σ.P_high σ.T_rows (σ.P_data) (σ.P_at) (σ.P_size)), ?_⟩
    intro x7 r_x7 e_x7
    have b_x7 : 0 ≤ x7 ∧ x7 ≤ 20000 := by rw [e_x7]; exact hT.2 36 _
    refine ⟨(show 0 ≤ (σ.1 44 + n2) ∧ (σ.1 44 + n2) < 20001 from by J_dt σ.P_low σ.P_high σ.T_rows (σ.P_data) (σ.P_at) (σ.P_size)), ?_⟩
    intro x9 r_x9 e_x9
    have b_x9 : 0 ≤ x9 ∧ x9 ≤ 20000 := by rw [e_x9]; exact hT.2 36 _
    exact l_67 ((20001 - 0 : Int).toNat + 1) _ _ _ (show (20001 - 0 : Int) < (((20001 - 0 : Int).toNat + 1 : Nat) : Int) from by (J_dt σ.P_low σ.P_high σ.T_rows (σ.P_data) (σ.P_at) (σ.P_size))) (show x7 = σ.2.1 36 ((σ.1 44) + n1) from by J_dt σ.P_low σ.P_high σ.T_rows (σ.P_data) (σ.P_at) (σ.P_size)) (show x9 = σ.2.1 36 ((σ.1 44) + n2) from by J_dt σ.P_low σ.P_high σ.T_rows (σ.P_data) (σ.P_at) (σ.P_size)) (show 0 ≤ 0 from by J_dt σ.P_low σ.P_high σ.T_rows (σ.P_data) (σ.P_at) (σ.P_size)) (show 0 ≤ 20000 from by J_dt σ.P_low σ.P_high σ.T_rows (σ.P_data) (σ.P_at) (σ.P_size)) (show x9 + (σ.2.1 36 ((σ.1 44) + n1 + 1) - x7) ≤ 20000 from by J_dt σ.P_low σ.P_high σ.T_rows (σ.P_data) (σ.P_at) (σ.P_size))
  ·
    exact (show 0 ≤ 0 ∧ 0 ≤ 1 from by J_dt σ.P_low σ.P_high σ.T_rows (σ.P_data) (σ.P_at) (σ.P_size))
set_option maxHeartbeats 1000000 in
theorem K_X4_findSame {n1 : Int} {σ : S0} (hT : c_T σ) (p1 : J_pk (σ.1 44) n1 (σ.2.1 13) (σ.2.1 28) (σ.2.1 35) (σ.2.1 36) (σ.2.1 37)) : W_X4_findSame n1 σ (fun (τ : S0) => (c_T τ) ∧ (J_sa n1 (τ.2.1 55))) := by
  have A13 : ∀ j, 0 ≤ σ.2.1 13 j ∧ σ.2.1 13 j ≤ 4 := fun j => hT.2 13 j
  have A28 : ∀ j, 0 ≤ σ.2.1 28 j ∧ σ.2.1 28 j ≤ 60 := fun j => hT.2 28 j
  have A35 : ∀ j, 0 ≤ σ.2.1 35 j ∧ σ.2.1 35 j ≤ 1499 := fun j => hT.2 35 j
  have A36 : ∀ j, 0 ≤ σ.2.1 36 j ∧ σ.2.1 36 j ≤ 20000 := fun j => hT.2 36 j
  have A37 : ∀ j, 0 ≤ σ.2.1 37 j ∧ σ.2.1 37 j ≤ 19999 := fun j => hT.2 37 j
  have A55 : ∀ j, 0 ≤ σ.2.1 55 j ∧ σ.2.1 55 j ≤ 19999 := fun j => hT.2 55 j
  have A56 : ∀ j, 0 ≤ σ.2.1 56 j ∧ σ.2.1 56 j ≤ 20000 := fun j => hT.2 56 j
  have A57 : ∀ j, 0 ≤ σ.2.1 57 j ∧ σ.2.1 57 j ≤ 20000 := fun j => hT.2 57 j
  have v44 : 0 ≤ σ.1 44 ∧ σ.1 44 ≤ 20000 := hT.1 44
  have W44 : σ.1 44 = σ.1 44 := rfl
  have G13 : σ.2.1 13 = σ.2.1 13 := rfl
  have G28 : σ.2.1 28 = σ.2.1 28 := rfl
  have G35 : σ.2.1 35 = σ.2.1 35 := rfl
  have G36 : σ.2.1 36 = σ.2.1 36 := rfl
  have G37 : σ.2.1 37 = σ.2.1 37 := rfl
  intro P2 P20 P35 P61 P101 h2 h20 h35 h61 h101
  have pk := p1
  have f0 : ∀ j, 0 ≤ σ.2.1 28 j := fun j => (A28 j).1
  have pb := p1.1
  have l_35 : ∀ (m_35 : Nat) (u2_35 : Int) (u3_35 : Int) (τ_35 : S0), 20001 - u3_35 < (m_35 : Int) → (c_T τ_35) → (τ_35.1 44 = σ.1 44) → (τ_35.2.1 13 = σ.2.1 13) → (τ_35.2.1 28 = σ.2.1 28) → (τ_35.2.1 35 = σ.2.1 35) → (τ_35.2.1 36 = σ.2.1 36) → (τ_35.2.1 37 = σ.2.1 37) → (0 ≤ u3_35) → (u3_35 ≤ n1) → (0 ≤ u2_35) → (u2_35 < 32768) → (J_sa u3_35 (τ_35.2.1 55)) → (J_hd u3_35 u2_35 (τ_35.2.1 55) (τ_35.2.1 56) (τ_35.2.1 57)) → P35 n1 u2_35 u3_35 τ_35 := by
    intro m_35
    induction m_35 with
    | zero =>
      intro u2_35 u3_35 τ_35 hm hT W44 G13 G28 G35 G36 G37 i35_1 i35_2 i35_3 i35_4 i35_5 i35_6
      have A13 : ∀ j, 0 ≤ τ_35.2.1 13 j ∧ τ_35.2.1 13 j ≤ 4 := fun j => hT.2 13 j
      have A28 : ∀ j, 0 ≤ τ_35.2.1 28 j ∧ τ_35.2.1 28 j ≤ 60 := fun j => hT.2 28 j
      have A35 : ∀ j, 0 ≤ τ_35.2.1 35 j ∧ τ_35.2.1 35 j ≤ 1499 := fun j => hT.2 35 j
      have A36 : ∀ j, 0 ≤ τ_35.2.1 36 j ∧ τ_35.2.1 36 j ≤ 20000 := fun j => hT.2 36 j
      have A37 : ∀ j, 0 ≤ τ_35.2.1 37 j ∧ τ_35.2.1 37 j ≤ 19999 := fun j => hT.2 37 j
      have A55 : ∀ j, 0 ≤ τ_35.2.1 55 j ∧ τ_35.2.1 55 j ≤ 19999 := fun j => hT.2 55 j
      have A56 : ∀ j, 0 ≤ τ_35.2.1 56 j ∧ τ_35.2.1 56 j ≤ 20000 := fun j => hT.2 56 j
      have A57 : ∀ j, 0 ≤ τ_35.2.1 57 j ∧ τ_35.2.1 57 j ≤ 20000 := fun j => hT.2 57 j
      have v44 : 0 ≤ τ_35.1 44 ∧ τ_35.1 44 ≤ 20000 := hT.1 44
      exfalso; J_dt σ.P_low σ.P_high σ.T_rows (σ.P_data) (σ.P_at) (σ.P_size)
    | succ m_35 ih_35 =>
      intro u2_35 u3_35 τ_35 hm_35 hT W44 G13 G28 G35 G36 G37 i35_1 i35_2 i35_3 i35_4 i35_5 i35_6
      have A13 : ∀ j, 0 ≤ τ_35.2.1 13 j ∧ τ_35.2.1 13 j ≤ 4 := fun j => hT.2 13 j
      have A28 : ∀ j, 0 ≤ τ_35.2.1 28 j ∧ τ_35.2.1 28 j ≤ 60 := fun j => hT.2 28 j
      have A35 : ∀ j, 0 ≤ τ_35.2.1 35 j ∧ τ_35.2.1 35 j ≤ 1499 := fun j => hT.2 35 j
      have A36 : ∀ j, 0 ≤ τ_35.2.1 36 j ∧ τ_35.2.1 36 j ≤ 20000 := fun j => hT.2 36 j
      have A37 : ∀ j, 0 ≤ τ_35.2.1 37 j ∧ τ_35.2.1 37 j ≤ 19999 := fun j => hT.2 37 j
      have A55 : ∀ j, 0 ≤ τ_35.2.1 55 j ∧ τ_35.2.1 55 j ≤ 19999 := fun j => hT.2 55 j
      have A56 : ∀ j, 0 ≤ τ_35.2.1 56 j ∧ τ_35.2.1 56 j ≤ 20000 := fun j => hT.2 56 j
      have A57 : ∀ j, 0 ≤ τ_35.2.1 57 j ∧ τ_35.2.1 57 j ≤ 20000 := fun j => hT.2 57 j
      have v44 : 0 ≤ τ_35.1 44 ∧ τ_35.1 44 ≤ 20000 := hT.1 44
      have l_101 : ∀ (u2_101 : Int) (u3_101 : Int) (u4_101 : Int) (u5_101 : Int) (τ_101 : S0), (c_T τ_101) → (τ_101.1 44 = σ.1 44) → (τ_101.2.1 13 = σ.2.1 13) → (τ_101.2.1 28 = σ.2.1 28) → (τ_101.2.1 35 = σ.2.1 35) → (τ_101.2.1 36 = σ.2.1 36) → (τ_101.2.1 37 = σ.2.1 37) → (0 ≤ u3_101) → (u3_101 < n1) → (0 ≤ u2_101) → (u2_101 < 32768) → (J_sa u3_101 (τ_101.2.1 55)) → (J_hd u3_101 u2_101 (τ_101.2.1 55) (τ_101.2.1 56) (τ_101.2.1 57)) → (0 ≤ u4_101 ∧ u4_101 ≤ u2_101) → (0 ≤ u5_101 ∧ u5_101 ≤ u3_101) → (u3_101 + (m_35 : Int) ≥ 20001) → P101 n1 u2_101 u3_101 u4_101 u5_101 τ_101 := by
        intro u2_101 u3_101 u4_101 u5_101 τ_101 hT W44 G13 G28 G35 G36 G37 i101_1 i101_2 i101_3 i101_4 i101_5 i101_6 i101_7 i101_8 i101_9
        have A13 : ∀ j, 0 ≤ τ_101.2.1 13 j ∧ τ_101.2.1 13 j ≤ 4 := fun j => hT.2 13 j
        have A28 : ∀ j, 0 ≤ τ_101.2.1 28 j ∧ τ_101.2.1 28 j ≤ 60 := fun j => hT.2 28 j
        have A35 : ∀ j, 0 ≤ τ_101.2.1 35 j ∧ τ_101.2.1 35 j ≤ 1499 := fun j => hT.2 35 j
        have A36 : ∀ j, 0 ≤ τ_101.2.1 36 j ∧ τ_101.2.1 36 j ≤ 20000 := fun j => hT.2 36 j
        have A37 : ∀ j, 0 ≤ τ_101.2.1 37 j ∧ τ_101.2.1 37 j ≤ 19999 := fun j => hT.2 37 j
        have A55 : ∀ j, 0 ≤ τ_101.2.1 55 j ∧ τ_101.2.1 55 j ≤ 19999 := fun j => hT.2 55 j
        have A56 : ∀ j, 0 ≤ τ_101.2.1 56 j ∧ τ_101.2.1 56 j ≤ 20000 := fun j => hT.2 56 j
        have A57 : ∀ j, 0 ≤ τ_101.2.1 57 j ∧ τ_101.2.1 57 j ≤ 20000 := fun j => hT.2 57 j
        have v44 : 0 ≤ τ_101.1 44 ∧ τ_101.1 44 ≤ 20000 := hT.1 44
        refine h101 n1 u2_101 u3_101 u4_101 u5_101 τ_101 ?_
        refine ⟨(show 0 ≤ u3_101 ∧ u3_101 < 20000 from by J_dt σ.P_low σ.P_high σ.T_rows (σ.P_data) (σ.P_at) (σ.P_size)), ?_⟩
        replace hT := cT_a (k := 55) (j := u3_101) hT (show (0 : Int) ≤ u3_101 ∧ u3_101 ≤ 19999 from by J_dt σ.P_low σ.P_high σ.T_rows (σ.P_data) (σ.P_at) (σ.P_size))
        refine ⟨fun c26 => ?_, fun c26 => ?_⟩
        ·
          refine ⟨(show 0 ≤ u4_101 ∧ u4_101 < 32768 from by J_dt σ.P_low σ.P_high σ.T_rows (σ.P_data) (σ.P_at) (σ.P_size)), ?_⟩
          intro x28 r_x28 e_x28
          have b_x28 : 0 ≤ x28 ∧ x28 ≤ 20000 := by rw [e_x28]; exact hT.2 56 _
          replace hT := cT_a (k := 57) (j := u3_101) hT (show (0 : Int) ≤ x28 ∧ x28 ≤ 20000 from by J_dt σ.P_low σ.P_high σ.T_rows (σ.P_data) (σ.P_at) (σ.P_size))
          refine ⟨(⟨by J_dt σ.P_low σ.P_high σ.T_rows (σ.P_data) (σ.P_at) (σ.P_size), by J_dt σ.P_low σ.P_high σ.T_rows (σ.P_data) (σ.P_at) (σ.P_size)⟩ : rg (u3_101 + 1)), ?_⟩
          replace hT := cT_a (k := 56) (j := u4_101) hT (show (0 : Int) ≤ (u3_101 + 1) ∧ (u3_101 + 1) ≤ 20000 from by J_dt σ.P_low σ.P_high σ.T_rows (σ.P_data) (σ.P_at) (σ.P_size))
          exact ih_35 _ _ _ (show (20001 - (u3_101 + 1) : Int) < ((m_35 : Nat) : Int) from by (J_dt σ.P_low σ.P_high σ.T_rows (σ.P_data) (σ.P_at) (σ.P_size))) hT (show τ_101.1 44 = σ.1 44 from by omega) G13 G28 G35 G36 G37 (show 0 ≤ (u3_101 + 1) from by J_dt σ.P_low σ.P_high σ.T_rows (σ.P_data) (σ.P_at) (σ.P_size)) (show (u3_101 + 1) ≤ n1 from by J_dt σ.P_low σ.P_high σ.T_rows (σ.P_data) (σ.P_at) (σ.P_size)) (show 0 ≤ u2_101 from by J_dt σ.P_low σ.P_high σ.T_rows (σ.P_data) (σ.P_at) (σ.P_size)) (show u2_101 < 32768 from by J_dt σ.P_low σ.P_high σ.T_rows (σ.P_data) (σ.P_at) (σ.P_size)) (show J_sa (u3_101 + 1) ((st (τ_101.2.1 55) u3_101 u3_101)) from by (first | (intro r a b; exfalso; omega) | exact J_sa_a i101_5 (by omega) (by omega) | (rw [st_st]; exact J_sa_a i101_5 (by omega) (by omega)))) (show J_hd (u3_101 + 1) u2_101 ((st (τ_101.2.1 55) u3_101 u3_101)) ((st (τ_101.2.1 56) u4_101 (u3_101 + 1))) ((st (τ_101.2.1 57) u3_101 x28)) from by (first | (refine ⟨fun b b0 b1 => ?_, fun r a b => by omega⟩; rw [q4_1 b b0 (by omega)]; exact ⟨by omega, fun q => by omega⟩) | (rw [e_x28]; exact J_hd_n i101_6 (by omega) (by omega) (by omega) (fun j => (A56 j).1) (fun j => (A57 j).1)) | (rw [st_st]; exact J_hd_d i101_6 (by omega))))
        ·
          refine ⟨(⟨by J_dt σ.P_low σ.P_high σ.T_rows (σ.P_data) (σ.P_at) (σ.P_size), by J_dt σ.P_low σ.P_high σ.T_rows (σ.P_data) (σ.P_at) (σ.P_size)⟩ : rg (u5_101 - 1)), ?_⟩
          replace hT := cT_a (k := 55) (j := u3_101) hT (show (0 : Int) ≤ (u5_101 - 1) ∧ (u5_101 - 1) ≤ 19999 from by J_dt σ.P_low σ.P_high σ.T_rows (σ.P_data) (σ.P_at) (σ.P_size))
          refine ⟨(⟨by J_dt σ.P_low σ.P_high σ.T_rows (σ.P_data) (σ.P_at) (σ.P_size), by J_dt σ.P_low σ.P_high σ.T_rows (σ.P_data) (σ.P_at) (σ.P_size)⟩ : rg (u3_101 + 1)), ?_⟩
          exact ih_35 _ _ _ (show (20001 - (u3_101 + 1) : Int) < ((m_35 : Nat) : Int) from by (J_dt σ.P_low σ.P_high σ.T_rows (σ.P_data) (σ.P_at) (σ.P_size))) hT (show τ_101.1 44 = σ.1 44 from by omega) G13 G28 G35 G36 G37 (show 0 ≤ (u3_101 + 1) from by J_dt σ.P_low σ.P_high σ.T_rows (σ.P_data) (σ.P_at) (σ.P_size)) (show (u3_101 + 1) ≤ n1 from by J_dt σ.P_low σ.P_high σ.T_rows (σ.P_data) (σ.P_at) (σ.P_size)) (show 0 ≤ u2_101 from by J_dt σ.P_low σ.P_high σ.T_rows (σ.P_data) (σ.P_at) (σ.P_size)) (show u2_101 < 32768 from by J_dt σ.P_low σ.P_high σ.T_rows (σ.P_data) (σ.P_at) (σ.P_size)) (show J_sa (u3_101 + 1) ((st (st (τ_101.2.1 55) u3_101 u3_101) u3_101 (u5_101 - 1))) from by (first | (intro r a b; exfalso; omega) | exact J_sa_a i101_5 (by omega) (by omega) | (rw [st_st]; exact J_sa_a i101_5 (by omega) (by omega)))) (show J_hd (u3_101 + 1) u2_101 ((st (st (τ_101.2.1 55) u3_101 u3_101) u3_101 (u5_101 - 1))) (τ_101.2.1 56) (τ_101.2.1 57) from by (first | (refine ⟨fun b b0 b1 => ?_, fun r a b => by omega⟩; rw [q4_1 b b0 (by omega)]; exact ⟨by omega, fun q => by omega⟩) | (rw [e_x28]; exact J_hd_n i101_6 (by omega) (by omega) (by omega) (fun j => (A56 j).1) (fun j => (A57 j).1)) | (rw [st_st]; exact J_hd_d i101_6 (by omega))))
      have l_61 : ∀ (m_61 : Nat) (u2_61 : Int) (u3_61 : Int) (u4_61 : Int) (u5_61 : Int) (u6_61 : Int) (τ_61 : S0), 20001 - u6_61 < (m_61 : Int) → (c_T τ_61) → (τ_61.1 44 = σ.1 44) → (τ_61.2.1 13 = σ.2.1 13) → (τ_61.2.1 28 = σ.2.1 28) → (τ_61.2.1 35 = σ.2.1 35) → (τ_61.2.1 36 = σ.2.1 36) → (τ_61.2.1 37 = σ.2.1 37) → (0 ≤ u3_61) → (u3_61 < n1) → (0 ≤ u2_61) → (u2_61 < 32768) → (J_sa u3_61 (τ_61.2.1 55)) → (J_hd u3_61 u2_61 (τ_61.2.1 55) (τ_61.2.1 56) (τ_61.2.1 57)) → (0 ≤ u4_61 ∧ u4_61 ≤ u2_61) → (0 ≤ u5_61 ∧ u5_61 ≤ u3_61) → (0 < u5_61 → τ_61.2.1 55 (u5_61 - 1) = u5_61 - 1) → (0 ≤ u6_61 ∧ u6_61 ≤ 20000) → (u3_61 + (m_35 : Int) ≥ 20001) → P61 n1 u2_61 u3_61 u4_61 u5_61 u6_61 τ_61 := by
        intro m_61
        induction m_61 with
        | zero =>
          intro u2_61 u3_61 u4_61 u5_61 u6_61 τ_61 hm hT W44 G13 G28 G35 G36 G37 i61_1 i61_2 i61_3 i61_4 i61_5 i61_6 i61_7 i61_8 i61_9 i61_10 i61_11
          have A13 : ∀ j, 0 ≤ τ_61.2.1 13 j ∧ τ_61.2.1 13 j ≤ 4 := fun j => hT.2 13 j
          have A28 : ∀ j, 0 ≤ τ_61.2.1 28 j ∧ τ_61.2.1 28 j ≤ 60 := fun j => hT.2 28 j
          have A35 : ∀ j, 0 ≤ τ_61.2.1 35 j ∧ τ_61.2.1 35 j ≤ 1499 := fun j => hT.2 35 j
          have A36 : ∀ j, 0 ≤ τ_61.2.1 36 j ∧ τ_61.2.1 36 j ≤ 20000 := fun j => hT.2 36 j
          have A37 : ∀ j, 0 ≤ τ_61.2.1 37 j ∧ τ_61.2.1 37 j ≤ 19999 := fun j => hT.2 37 j
          have A55 : ∀ j, 0 ≤ τ_61.2.1 55 j ∧ τ_61.2.1 55 j ≤ 19999 := fun j => hT.2 55 j
          have A56 : ∀ j, 0 ≤ τ_61.2.1 56 j ∧ τ_61.2.1 56 j ≤ 20000 := fun j => hT.2 56 j
          have A57 : ∀ j, 0 ≤ τ_61.2.1 57 j ∧ τ_61.2.1 57 j ≤ 20000 := fun j => hT.2 57 j
          have v44 : 0 ≤ τ_61.1 44 ∧ τ_61.1 44 ≤ 20000 := hT.1 44
          exfalso; J_dt σ.P_low σ.P_high σ.T_rows (σ.P_data) (σ.P_at) (σ.P_size)
        | succ m_61 ih_61 =>
          intro u2_61 u3_61 u4_61 u5_61 u6_61 τ_61 hm_61 hT W44 G13 G28 G35 G36 G37 i61_1 i61_2 i61_3 i61_4 i61_5 i61_6 i61_7 i61_8 i61_9 i61_10 i61_11
          have A13 : ∀ j, 0 ≤ τ_61.2.1 13 j ∧ τ_61.2.1 13 j ≤ 4 := fun j => hT.2 13 j
          have A28 : ∀ j, 0 ≤ τ_61.2.1 28 j ∧ τ_61.2.1 28 j ≤ 60 := fun j => hT.2 28 j
          have A35 : ∀ j, 0 ≤ τ_61.2.1 35 j ∧ τ_61.2.1 35 j ≤ 1499 := fun j => hT.2 35 j
          have A36 : ∀ j, 0 ≤ τ_61.2.1 36 j ∧ τ_61.2.1 36 j ≤ 20000 := fun j => hT.2 36 j
          have A37 : ∀ j, 0 ≤ τ_61.2.1 37 j ∧ τ_61.2.1 37 j ≤ 19999 := fun j => hT.2 37 j
          have A55 : ∀ j, 0 ≤ τ_61.2.1 55 j ∧ τ_61.2.1 55 j ≤ 19999 := fun j => hT.2 55 j
          have A56 : ∀ j, 0 ≤ τ_61.2.1 56 j ∧ τ_61.2.1 56 j ≤ 20000 := fun j => hT.2 56 j
          have A57 : ∀ j, 0 ≤ τ_61.2.1 57 j ∧ τ_61.2.1 57 j ≤ 20000 := fun j => hT.2 57 j
          have v44 : 0 ≤ τ_61.1 44 ∧ τ_61.1 44 ≤ 20000 := hT.1 44
          refine h61 n1 u2_61 u3_61 u4_61 u5_61 u6_61 τ_61 ?_
          refine ⟨fun c15 => ?_, fun c15 => ?_⟩
          ·
            exact l_101 _ _ _ _ _ hT (show τ_61.1 44 = σ.1 44 from by omega) G13 G28 G35 G36 G37 (show 0 ≤ u3_61 from by J_dt σ.P_low σ.P_high σ.T_rows (σ.P_data) (σ.P_at) (σ.P_size)) (show u3_61 < n1 from by J_dt σ.P_low σ.P_high σ.T_rows (σ.P_data) (σ.P_at) (σ.P_size)) (show 0 ≤ u2_61 from by J_dt σ.P_low σ.P_high σ.T_rows (σ.P_data) (σ.P_at) (σ.P_size)) (show u2_61 < 32768 from by J_dt σ.P_low σ.P_high σ.T_rows (σ.P_data) (σ.P_at) (σ.P_size)) (show J_sa u3_61 (τ_61.2.1 55) from by exact i61_5) (show J_hd u3_61 u2_61 (τ_61.2.1 55) (τ_61.2.1 56) (τ_61.2.1 57) from by exact i61_6) (show 0 ≤ u4_61 ∧ u4_61 ≤ u2_61 from by J_dt σ.P_low σ.P_high σ.T_rows (σ.P_data) (σ.P_at) (σ.P_size)) (show 0 ≤ u5_61 ∧ u5_61 ≤ u3_61 from by J_dt σ.P_low σ.P_high σ.T_rows (σ.P_data) (σ.P_at) (σ.P_size)) (show u3_61 + (m_35 : Int) ≥ 20001 from by J_dt σ.P_low σ.P_high σ.T_rows (σ.P_data) (σ.P_at) (σ.P_size))
          ·
            refine ⟨fun c16 => ?_, fun c16 => ?_⟩
            ·
              exact l_101 _ _ _ _ _ hT (show τ_61.1 44 = σ.1 44 from by omega) G13 G28 G35 G36 G37 (show 0 ≤ u3_61 from by J_dt σ.P_low σ.P_high σ.T_rows (σ.P_data) (σ.P_at) (σ.P_size)) (show u3_61 < n1 from by J_dt σ.P_low σ.P_high σ.T_rows (σ.P_data) (σ.P_at) (σ.P_size)) (show 0 ≤ u2_61 from by J_dt σ.P_low σ.P_high σ.T_rows (σ.P_data) (σ.P_at) (σ.P_size)) (show u2_61 < 32768 from by J_dt σ.P_low σ.P_high σ.T_rows (σ.P_data) (σ.P_at) (σ.P_size)) (show J_sa u3_61 (τ_61.2.1 55) from by exact i61_5) (show J_hd u3_61 u2_61 (τ_61.2.1 55) (τ_61.2.1 56) (τ_61.2.1 57) from by exact i61_6) (show 0 ≤ u4_61 ∧ u4_61 ≤ u2_61 from by J_dt σ.P_low σ.P_high σ.T_rows (σ.P_data) (σ.P_at) (σ.P_size)) (show 0 ≤ u5_61 ∧ u5_61 ≤ u3_61 from by J_dt σ.P_low σ.P_high σ.T_rows (σ.P_data) (σ.P_at) (σ.P_size)) (show u3_61 + (m_35 : Int) ≥ 20001 from by J_dt σ.P_low σ.P_high σ.T_rows (σ.P_data) (σ.P_at) (σ.P_size))
            ·
              refine ⟨(⟨by J_dt σ.P_low σ.P_high σ.T_rows (σ.P_data) (σ.P_at) (σ.P_size), by J_dt σ.P_low σ.P_high σ.T_rows (σ.P_data) (σ.P_at) (σ.P_size)⟩ : rg (u5_61 - 1)), ?_⟩
              have mo := J_pk_m pk f0 (r := u5_61 - 1) (by omega) (by omega)
              have mw := fun q => J_pk_w pk (r := u5_61 - 1) (s := u3_61) (by omega) (by omega) (by omega) (by omega) q
              have mc := A36 (σ.1 44 + u3_61 + 1)
              rw [G36] at mc
              have mm := J_pk_m pk f0 (r := u3_61) (by omega) (by omega)
              refine ⟨_, K_X4_isAlike hT (show 0 ≤ (u5_61 - 1) from by J_dt σ.P_low σ.P_high σ.T_rows (σ.P_data) (σ.P_at) (σ.P_size)) (show (τ_61.1 44) + (u5_61 - 1) < 20000 from by J_dt σ.P_low σ.P_high σ.T_rows (σ.P_data) (σ.P_at) (σ.P_size)) (show 0 ≤ u3_61 from by J_dt σ.P_low σ.P_high σ.T_rows (σ.P_data) (σ.P_at) (σ.P_size)) (show (τ_61.1 44) + u3_61 < 20000 from by J_dt σ.P_low σ.P_high σ.T_rows (σ.P_data) (σ.P_at) (σ.P_size)) (show τ_61.2.1 36 ((τ_61.1 44) + (u5_61 - 1)) ≤ τ_61.2.1 36 ((τ_61.1 44) + (u5_61 - 1) + 1) from by (rw [G36]; exact mo)) (show τ_61.2.1 35 ((τ_61.1 44) + (u5_61 - 1)) = τ_61.2.1 35 ((τ_61.1 44) + u3_61) → τ_61.2.1 36 ((τ_61.1 44) + u3_61) + (τ_61.2.1 36 ((τ_61.1 44) + (u5_61 - 1) + 1) - τ_61.2.1 36 ((τ_61.1 44) + (u5_61 - 1))) ≤ 20000 from by (rw [G35, G36]; intro q; have := mw q; omega)), ?_⟩
              intro x19 r_x19 hq
              have q18_1 := hq
              replace q18_1 : 0 ≤ x19 ∧ x19 ≤ 1 := q18_1
              refine ⟨fun c21 => ?_, fun c21 => ?_⟩
              ·
                exact l_101 _ _ _ _ _ hT (show τ_61.1 44 = σ.1 44 from by omega) G13 G28 G35 G36 G37 (show 0 ≤ u3_61 from by J_dt σ.P_low σ.P_high σ.T_rows (σ.P_data) (σ.P_at) (σ.P_size)) (show u3_61 < n1 from by J_dt σ.P_low σ.P_high σ.T_rows (σ.P_data) (σ.P_at) (σ.P_size)) (show 0 ≤ u2_61 from by J_dt σ.P_low σ.P_high σ.T_rows (σ.P_data) (σ.P_at) (σ.P_size)) (show u2_61 < 32768 from by J_dt σ.P_low σ.P_high σ.T_rows (σ.P_data) (σ.P_at) (σ.P_size)) (show J_sa u3_61 (τ_61.2.1 55) from by exact i61_5) (show J_hd u3_61 u2_61 (τ_61.2.1 55) (τ_61.2.1 56) (τ_61.2.1 57) from by exact i61_6) (show 0 ≤ u4_61 ∧ u4_61 ≤ u2_61 from by J_dt σ.P_low σ.P_high σ.T_rows (σ.P_data) (σ.P_at) (σ.P_size)) (show 0 ≤ u5_61 ∧ u5_61 ≤ u3_61 from by J_dt σ.P_low σ.P_high σ.T_rows (σ.P_data) (σ.P_at) (σ.P_size)) (show u3_61 + (m_35 : Int) ≥ 20001 from by J_dt σ.P_low σ.P_high σ.T_rows (σ.P_data) (σ.P_at) (σ.P_size))
              ·
                refine ⟨(show 0 ≤ (u5_61 - 1) ∧ (u5_61 - 1) < 20000 from by J_dt σ.P_low σ.P_high σ.T_rows (σ.P_data) (σ.P_at) (σ.P_size)), ?_⟩
                intro x23 r_x23 e_x23
                have b_x23 : 0 ≤ x23 ∧ x23 ≤ 20000 := by rw [e_x23]; exact hT.2 57 _
                have hx := i61_6.2 (u5_61 - 1) (by omega) (by omega) (i61_9 (by omega))
                rw [← e_x23] at hx
                refine ⟨(⟨by J_dt σ.P_low σ.P_high σ.T_rows (σ.P_data) (σ.P_at) (σ.P_size), by J_dt σ.P_low σ.P_high σ.T_rows (σ.P_data) (σ.P_at) (σ.P_size)⟩ : rg (u6_61 + 1)), ?_⟩
                exact ih_61 _ _ _ _ _ _ (show (20001 - (u6_61 + 1) : Int) < ((m_61 : Nat) : Int) from by (J_dt σ.P_low σ.P_high σ.T_rows (σ.P_data) (σ.P_at) (σ.P_size))) hT (show τ_61.1 44 = σ.1 44 from by omega) G13 G28 G35 G36 G37 (show 0 ≤ u3_61 from by J_dt σ.P_low σ.P_high σ.T_rows (σ.P_data) (σ.P_at) (σ.P_size)) (show u3_61 < n1 from by J_dt σ.P_low σ.P_high σ.T_rows (σ.P_data) (σ.P_at) (σ.P_size)) (show 0 ≤ u2_61 from by J_dt σ.P_low σ.P_high σ.T_rows (σ.P_data) (σ.P_at) (σ.P_size)) (show u2_61 < 32768 from by J_dt σ.P_low σ.P_high σ.T_rows (σ.P_data) (σ.P_at) (σ.P_size)) (show J_sa u3_61 (τ_61.2.1 55) from by (first | exact i35_5 | exact i61_5)) (show J_hd u3_61 u2_61 (τ_61.2.1 55) (τ_61.2.1 56) (τ_61.2.1 57) from by (first | exact i35_6 | exact i61_6)) (show 0 ≤ u4_61 ∧ u4_61 ≤ u2_61 from by J_dt σ.P_low σ.P_high σ.T_rows (σ.P_data) (σ.P_at) (σ.P_size)) (show 0 ≤ x23 ∧ x23 ≤ u3_61 from by J_dt σ.P_low σ.P_high σ.T_rows (σ.P_data) (σ.P_at) (σ.P_size)) (show 0 < x23 → τ_61.2.1 55 (x23 - 1) = x23 - 1 from by (first | exact hd.2 | exact hx.2)) (show 0 ≤ (u6_61 + 1) ∧ (u6_61 + 1) ≤ 20000 from by J_dt σ.P_low σ.P_high σ.T_rows (σ.P_data) (σ.P_at) (σ.P_size)) (show u3_61 + (m_35 : Int) ≥ 20001 from by J_dt σ.P_low σ.P_high σ.T_rows (σ.P_data) (σ.P_at) (σ.P_size))
      refine h35 n1 u2_35 u3_35 τ_35 ?_
      refine ⟨fun c8 => ?_, fun c8 => ?_⟩
      ·
        exact ⟨hT, (show J_sa n1 (τ_35.2.1 55) from by (rw [show n1 = u3_35 from by omega]; exact i35_5))⟩
      ·
        refine ⟨_, K_X4_hash hT (show 0 ≤ u3_35 from by J_dt σ.P_low σ.P_high σ.T_rows (σ.P_data) (σ.P_at) (σ.P_size)) (show (τ_35.1 44) + u3_35 < 20000 from by J_dt σ.P_low σ.P_high σ.T_rows (σ.P_data) (σ.P_at) (σ.P_size)), ?_⟩
        intro x10 r_x10 hq
        intro x12 r_x12 h1_x12
        refine ⟨(show 0 ≤ x12 ∧ x12 < 32768 from by J_dt σ.P_low σ.P_high σ.T_rows (σ.P_data) (σ.P_at) (σ.P_size)), ?_⟩
        intro x14 r_x14 e_x14
        have b_x14 : 0 ≤ x14 ∧ x14 ≤ 20000 := by rw [e_x14]; exact hT.2 56 _
        have hd := i35_6.1 x12 (by omega) (by omega)
        rw [← e_x14] at hd
        exact l_61 ((20001 - 0 : Int).toNat + 1) _ _ _ _ _ _ (show (20001 - 0 : Int) < (((20001 - 0 : Int).toNat + 1 : Nat) : Int) from by (J_dt σ.P_low σ.P_high σ.T_rows (σ.P_data) (σ.P_at) (σ.P_size))) hT (show τ_35.1 44 = σ.1 44 from by omega) G13 G28 G35 G36 G37 (show 0 ≤ u3_35 from by J_dt σ.P_low σ.P_high σ.T_rows (σ.P_data) (σ.P_at) (σ.P_size)) (show u3_35 < n1 from by J_dt σ.P_low σ.P_high σ.T_rows (σ.P_data) (σ.P_at) (σ.P_size)) (show 0 ≤ u2_35 from by J_dt σ.P_low σ.P_high σ.T_rows (σ.P_data) (σ.P_at) (σ.P_size)) (show u2_35 < 32768 from by J_dt σ.P_low σ.P_high σ.T_rows (σ.P_data) (σ.P_at) (σ.P_size)) (show J_sa u3_35 (τ_35.2.1 55) from by (first | exact i35_5 | exact i61_5)) (show J_hd u3_35 u2_35 (τ_35.2.1 55) (τ_35.2.1 56) (τ_35.2.1 57) from by (first | exact i35_6 | exact i61_6)) (show 0 ≤ x12 ∧ x12 ≤ u2_35 from by J_dt σ.P_low σ.P_high σ.T_rows (σ.P_data) (σ.P_at) (σ.P_size)) (show 0 ≤ x14 ∧ x14 ≤ u3_35 from by J_dt σ.P_low σ.P_high σ.T_rows (σ.P_data) (σ.P_at) (σ.P_size)) (show 0 < x14 → τ_35.2.1 55 (x14 - 1) = x14 - 1 from by (first | exact hd.2 | exact hx.2)) (show 0 ≤ 0 ∧ 0 ≤ 20000 from by J_dt σ.P_low σ.P_high σ.T_rows (σ.P_data) (σ.P_at) (σ.P_size)) (show u3_35 + (m_35 : Int) ≥ 20001 from by J_dt σ.P_low σ.P_high σ.T_rows (σ.P_data) (σ.P_at) (σ.P_size))
  have l_2 : ∀ (m_2 : Nat) (u2_2 : Int) (τ_2 : S0), 32769 - u2_2 < (m_2 : Int) → (c_T τ_2) → (τ_2.1 44 = σ.1 44) → (τ_2.2.1 13 = σ.2.1 13) → (τ_2.2.1 28 = σ.2.1 28) → (τ_2.2.1 35 = σ.2.1 35) → (τ_2.2.1 36 = σ.2.1 36) → (τ_2.2.1 37 = σ.2.1 37) → (1 ≤ u2_2) → (u2_2 ≤ 32768) → P2 n1 u2_2 τ_2 := by
    intro m_2
    induction m_2 with
    | zero =>
      intro u2_2 τ_2 hm hT W44 G13 G28 G35 G36 G37 i2_1 i2_2
      have A13 : ∀ j, 0 ≤ τ_2.2.1 13 j ∧ τ_2.2.1 13 j ≤ 4 := fun j => hT.2 13 j
      have A28 : ∀ j, 0 ≤ τ_2.2.1 28 j ∧ τ_2.2.1 28 j ≤ 60 := fun j => hT.2 28 j
      have A35 : ∀ j, 0 ≤ τ_2.2.1 35 j ∧ τ_2.2.1 35 j ≤ 1499 := fun j => hT.2 35 j
      have A36 : ∀ j, 0 ≤ τ_2.2.1 36 j ∧ τ_2.2.1 36 j ≤ 20000 := fun j => hT.2 36 j
      have A37 : ∀ j, 0 ≤ τ_2.2.1 37 j ∧ τ_2.2.1 37 j ≤ 19999 := fun j => hT.2 37 j
      have A55 : ∀ j, 0 ≤ τ_2.2.1 55 j ∧ τ_2.2.1 55 j ≤ 19999 := fun j => hT.2 55 j
      have A56 : ∀ j, 0 ≤ τ_2.2.1 56 j ∧ τ_2.2.1 56 j ≤ 20000 := fun j => hT.2 56 j
      have A57 : ∀ j, 0 ≤ τ_2.2.1 57 j ∧ τ_2.2.1 57 j ≤ 20000 := fun j => hT.2 57 j
      have v44 : 0 ≤ τ_2.1 44 ∧ τ_2.1 44 ≤ 20000 := hT.1 44
      exfalso; J_dt σ.P_low σ.P_high σ.T_rows (σ.P_data) (σ.P_at) (σ.P_size)
    | succ m_2 ih_2 =>
      intro u2_2 τ_2 hm_2 hT W44 G13 G28 G35 G36 G37 i2_1 i2_2
      have A13 : ∀ j, 0 ≤ τ_2.2.1 13 j ∧ τ_2.2.1 13 j ≤ 4 := fun j => hT.2 13 j
      have A28 : ∀ j, 0 ≤ τ_2.2.1 28 j ∧ τ_2.2.1 28 j ≤ 60 := fun j => hT.2 28 j
      have A35 : ∀ j, 0 ≤ τ_2.2.1 35 j ∧ τ_2.2.1 35 j ≤ 1499 := fun j => hT.2 35 j
      have A36 : ∀ j, 0 ≤ τ_2.2.1 36 j ∧ τ_2.2.1 36 j ≤ 20000 := fun j => hT.2 36 j
      have A37 : ∀ j, 0 ≤ τ_2.2.1 37 j ∧ τ_2.2.1 37 j ≤ 19999 := fun j => hT.2 37 j
      have A55 : ∀ j, 0 ≤ τ_2.2.1 55 j ∧ τ_2.2.1 55 j ≤ 19999 := fun j => hT.2 55 j
      have A56 : ∀ j, 0 ≤ τ_2.2.1 56 j ∧ τ_2.2.1 56 j ≤ 20000 := fun j => hT.2 56 j
      have A57 : ∀ j, 0 ≤ τ_2.2.1 57 j ∧ τ_2.2.1 57 j ≤ 20000 := fun j => hT.2 57 j
      have v44 : 0 ≤ τ_2.1 44 ∧ τ_2.1 44 ≤ 20000 := hT.1 44
      refine h2 n1 u2_2 τ_2 ?_
      refine ⟨fun c1 => ?_, fun c1 => ?_⟩
      ·
        refine h20 _ _ _ ?_
        refine ⟨_, K_J7_fill_fda19_q72 hT (show 0 ≤ 0 from by omega) (show 0 ≤ u2_2 from by J_dt σ.P_low σ.P_high σ.T_rows (σ.P_data) (σ.P_at) (σ.P_size)) (show u2_2 ≤ 32768 from by J_dt σ.P_low σ.P_high σ.T_rows (σ.P_data) (σ.P_at) (σ.P_size)) (show 0 = 0 from by J_dt σ.P_low σ.P_high σ.T_rows (σ.P_data) (σ.P_at) (σ.P_size)), ?_⟩
        intro τ6 hn_τ6 hf_τ6 hq
        obtain ⟨hT, q4_1⟩ := hq
        replace q4_1 : ∀ e : Int, 0 ≤ e → e < u2_2 → τ6.2.1 56 e = 0 := q4_1
        have w44_τ6 : τ6.1 44 = τ_2.1 44 := hf_τ6.1 44 (by decide)
        have g13_τ6 : τ6.2.1 13 = τ_2.2.1 13 := hf_τ6.2.1 13 (by decide)
        have g28_τ6 : τ6.2.1 28 = τ_2.2.1 28 := hf_τ6.2.1 28 (by decide)
        have g35_τ6 : τ6.2.1 35 = τ_2.2.1 35 := hf_τ6.2.1 35 (by decide)
        have g36_τ6 : τ6.2.1 36 = τ_2.2.1 36 := hf_τ6.2.1 36 (by decide)
        have g37_τ6 : τ6.2.1 37 = τ_2.2.1 37 := hf_τ6.2.1 37 (by decide)
        have g55_τ6 : τ6.2.1 55 = τ_2.2.1 55 := hf_τ6.2.1 55 (by decide)
        have g57_τ6 : τ6.2.1 57 = τ_2.2.1 57 := hf_τ6.2.1 57 (by decide)
        have W44 : τ6.1 44 = σ.1 44 := by omega
        have G13 : τ6.2.1 13 = σ.2.1 13 := (g13_τ6).trans G13
        have G28 : τ6.2.1 28 = σ.2.1 28 := (g28_τ6).trans G28
        have G35 : τ6.2.1 35 = σ.2.1 35 := (g35_τ6).trans G35
        have G36 : τ6.2.1 36 = σ.2.1 36 := (g36_τ6).trans G36
        have G37 : τ6.2.1 37 = σ.2.1 37 := (g37_τ6).trans G37
        have A13 : ∀ j, 0 ≤ τ6.2.1 13 j ∧ τ6.2.1 13 j ≤ 4 := fun j => hT.2 13 j
        have A28 : ∀ j, 0 ≤ τ6.2.1 28 j ∧ τ6.2.1 28 j ≤ 60 := fun j => hT.2 28 j
        have A35 : ∀ j, 0 ≤ τ6.2.1 35 j ∧ τ6.2.1 35 j ≤ 1499 := fun j => hT.2 35 j
        have A36 : ∀ j, 0 ≤ τ6.2.1 36 j ∧ τ6.2.1 36 j ≤ 20000 := fun j => hT.2 36 j
        have A37 : ∀ j, 0 ≤ τ6.2.1 37 j ∧ τ6.2.1 37 j ≤ 19999 := fun j => hT.2 37 j
        have A55 : ∀ j, 0 ≤ τ6.2.1 55 j ∧ τ6.2.1 55 j ≤ 19999 := fun j => hT.2 55 j
        have A56 : ∀ j, 0 ≤ τ6.2.1 56 j ∧ τ6.2.1 56 j ≤ 20000 := fun j => hT.2 56 j
        have A57 : ∀ j, 0 ≤ τ6.2.1 57 j ∧ τ6.2.1 57 j ≤ 20000 := fun j => hT.2 57 j
        have v44 : 0 ≤ τ6.1 44 ∧ τ6.1 44 ≤ 20000 := hT.1 44
        refine ⟨(⟨by J_dt σ.P_low σ.P_high σ.T_rows (σ.P_data) (σ.P_at) (σ.P_size), by J_dt σ.P_low σ.P_high σ.T_rows (σ.P_data) (σ.P_at) (σ.P_size)⟩ : rg (u2_2 + (-1))), ?_⟩
        exact l_35 ((20001 - 0 : Int).toNat + 1) _ _ _ (show (20001 - 0 : Int) < (((20001 - 0 : Int).toNat + 1 : Nat) : Int) from by (J_dt σ.P_low σ.P_high σ.T_rows (σ.P_data) (σ.P_at) (σ.P_size))) hT (show τ6.1 44 = σ.1 44 from by omega) G13 G28 G35 G36 G37 (show 0 ≤ 0 from by J_dt σ.P_low σ.P_high σ.T_rows (σ.P_data) (σ.P_at) (σ.P_size)) (show 0 ≤ n1 from by J_dt σ.P_low σ.P_high σ.T_rows (σ.P_data) (σ.P_at) (σ.P_size)) (show 0 ≤ (u2_2 + (-1)) from by J_dt σ.P_low σ.P_high σ.T_rows (σ.P_data) (σ.P_at) (σ.P_size)) (show (u2_2 + (-1)) < 32768 from by J_dt σ.P_low σ.P_high σ.T_rows (σ.P_data) (σ.P_at) (σ.P_size)) (show J_sa 0 (τ6.2.1 55) from by (first | (intro r a b; exfalso; omega) | exact J_sa_a i101_5 (by omega) (by omega) | (rw [st_st]; exact J_sa_a i101_5 (by omega) (by omega)))) (show J_hd 0 (u2_2 + (-1)) (τ6.2.1 55) (τ6.2.1 56) (τ6.2.1 57) from by (first | (refine ⟨fun b b0 b1 => ?_, fun r a b => by omega⟩; rw [q4_1 b b0 (by omega)]; exact ⟨by omega, fun q => by omega⟩) | (rw [e_x28]; exact J_hd_n i101_6 (by omega) (by omega) (by omega) (fun j => (A56 j).1) (fun j => (A57 j).1)) | (rw [st_st]; exact J_hd_d i101_6 (by omega))))
      ·
        refine ⟨fun c2 => ?_, fun c2 => ?_⟩
        ·
          refine h20 _ _ _ ?_
          refine ⟨_, K_J7_fill_fda19_q72 hT (show 0 ≤ 0 from by omega) (show 0 ≤ u2_2 from by J_dt σ.P_low σ.P_high σ.T_rows (σ.P_data) (σ.P_at) (σ.P_size)) (show u2_2 ≤ 32768 from by J_dt σ.P_low σ.P_high σ.T_rows (σ.P_data) (σ.P_at) (σ.P_size)) (show 0 = 0 from by J_dt σ.P_low σ.P_high σ.T_rows (σ.P_data) (σ.P_at) (σ.P_size)), ?_⟩
          intro τ6 hn_τ6 hf_τ6 hq
          obtain ⟨hT, q4_1⟩ := hq
          replace q4_1 : ∀ e : Int, 0 ≤ e → e < u2_2 → τ6.2.1 56 e = 0 := q4_1
          have w44_τ6 : τ6.1 44 = τ_2.1 44 := hf_τ6.1 44 (by decide)
          have g13_τ6 : τ6.2.1 13 = τ_2.2.1 13 := hf_τ6.2.1 13 (by decide)
          have g28_τ6 : τ6.2.1 28 = τ_2.2.1 28 := hf_τ6.2.1 28 (by decide)
          have g35_τ6 : τ6.2.1 35 = τ_2.2.1 35 := hf_τ6.2.1 35 (by decide)
          have g36_τ6 : τ6.2.1 36 = τ_2.2.1 36 := hf_τ6.2.1 36 (by decide)
          have g37_τ6 : τ6.2.1 37 = τ_2.2.1 37 := hf_τ6.2.1 37 (by decide)
          have g55_τ6 : τ6.2.1 55 = τ_2.2.1 55 := hf_τ6.2.1 55 (by decide)
          have g57_τ6 : τ6.2.1 57 = τ_2.2.1 57 := hf_τ6.2.1 57 (by decide)
          have W44 : τ6.1 44 = σ.1 44 := by omega
          have G13 : τ6.2.1 13 = σ.2.1 13 := (g13_τ6).trans G13
          have G28 : τ6.2.1 28 = σ.2.1 28 := (g28_τ6).trans G28
          have G35 : τ6.2.1 35 = σ.2.1 35 := (g35_τ6).trans G35
          have G36 : τ6.2.1 36 = σ.2.1 36 := (g36_τ6).trans G36
          have G37 : τ6.2.1 37 = σ.2.1 37 := (g37_τ6).trans G37
          have A13 : ∀ j, 0 ≤ τ6.2.1 13 j ∧ τ6.2.1 13 j ≤ 4 := fun j => hT.2 13 j
          have A28 : ∀ j, 0 ≤ τ6.2.1 28 j ∧ τ6.2.1 28 j ≤ 60 := fun j => hT.2 28 j
          have A35 : ∀ j, 0 ≤ τ6.2.1 35 j ∧ τ6.2.1 35 j ≤ 1499 := fun j => hT.2 35 j
          have A36 : ∀ j, 0 ≤ τ6.2.1 36 j ∧ τ6.2.1 36 j ≤ 20000 := fun j => hT.2 36 j
          have A37 : ∀ j, 0 ≤ τ6.2.1 37 j ∧ τ6.2.1 37 j ≤ 19999 := fun j => hT.2 37 j
          have A55 : ∀ j, 0 ≤ τ6.2.1 55 j ∧ τ6.2.1 55 j ≤ 19999 := fun j => hT.2 55 j
          have A56 : ∀ j, 0 ≤ τ6.2.1 56 j ∧ τ6.2.1 56 j ≤ 20000 := fun j => hT.2 56 j
          have A57 : ∀ j, 0 ≤ τ6.2.1 57 j ∧ τ6.2.1 57 j ≤ 20000 := fun j => hT.2 57 j
          have v44 : 0 ≤ τ6.1 44 ∧ τ6.1 44 ≤ 20000 := hT.1 44
          refine ⟨(⟨by J_dt σ.P_low σ.P_high σ.T_rows (σ.P_data) (σ.P_at) (σ.P_size), by J_dt σ.P_low σ.P_high σ.T_rows (σ.P_data) (σ.P_at) (σ.P_size)⟩ : rg (u2_2 + (-1))), ?_⟩
          exact l_35 ((20001 - 0 : Int).toNat + 1) _ _ _ (show (20001 - 0 : Int) < (((20001 - 0 : Int).toNat + 1 : Nat) : Int) from by (J_dt σ.P_low σ.P_high σ.T_rows (σ.P_data) (σ.P_at) (σ.P_size))) hT (show τ6.1 44 = σ.1 44 from by omega) G13 G28 G35 G36 G37 (show 0 ≤ 0 from by J_dt σ.P_low σ.P_high σ.T_rows (σ.P_data) (σ.P_at) (σ.P_size)) (show 0 ≤ n1 from by J_dt σ.P_low σ.P_high σ.T_rows (σ.P_data) (σ.P_at) (σ.P_size)) (show 0 ≤ (u2_2 + (-1)) from by J_dt σ.P_low σ.P_high σ.T_rows (σ.P_data) (σ.P_at) (σ.P_size)) (show (u2_2 + (-1)) < 32768 from by J_dt σ.P_low σ.P_high σ.T_rows (σ.P_data) (σ.P_at) (σ.P_size)) (show J_sa 0 (τ6.2.1 55) from by (first | (intro r a b; exfalso; omega) | exact J_sa_a i101_5 (by omega) (by omega) | (rw [st_st]; exact J_sa_a i101_5 (by omega) (by omega)))) (show J_hd 0 (u2_2 + (-1)) (τ6.2.1 55) (τ6.2.1 56) (τ6.2.1 57) from by (first | (refine ⟨fun b b0 b1 => ?_, fun r a b => by omega⟩; rw [q4_1 b b0 (by omega)]; exact ⟨by omega, fun q => by omega⟩) | (rw [e_x28]; exact J_hd_n i101_6 (by omega) (by omega) (by omega) (fun j => (A56 j).1) (fun j => (A57 j).1)) | (rw [st_st]; exact J_hd_d i101_6 (by omega))))
        ·
          refine ⟨(⟨by J_dt σ.P_low σ.P_high σ.T_rows (σ.P_data) (σ.P_at) (σ.P_size), by J_dt σ.P_low σ.P_high σ.T_rows (σ.P_data) (σ.P_at) (σ.P_size)⟩ : rg (u2_2 * 2)), ?_⟩
          exact ih_2 _ _ (show (32769 - (u2_2 * 2) : Int) < ((m_2 : Nat) : Int) from by (J_dt σ.P_low σ.P_high σ.T_rows (σ.P_data) (σ.P_at) (σ.P_size))) hT (show τ_2.1 44 = σ.1 44 from by omega) G13 G28 G35 G36 G37 (show 1 ≤ (u2_2 * 2) from by J_dt σ.P_low σ.P_high σ.T_rows (σ.P_data) (σ.P_at) (σ.P_size)) (show (u2_2 * 2) ≤ 32768 from by J_dt σ.P_low σ.P_high σ.T_rows (σ.P_data) (σ.P_at) (σ.P_size))
  exact l_2 ((32769 - 1 : Int).toNat + 1) _ _ (show (32769 - 1 : Int) < (((32769 - 1 : Int).toNat + 1 : Nat) : Int) from by (J_dt σ.P_low σ.P_high σ.T_rows (σ.P_data) (σ.P_at) (σ.P_size))) hT (show σ.1 44 = σ.1 44 from by omega) G13 G28 G35 G36 G37 (show 1 ≤ 1 from by J_dt σ.P_low σ.P_high σ.T_rows (σ.P_data) (σ.P_at) (σ.P_size)) (show 1 ≤ 32768 from by J_dt σ.P_low σ.P_high σ.T_rows (σ.P_data) (σ.P_at) (σ.P_size))
set_option maxHeartbeats 1000000 in
theorem K_J7_fill_fda19_q74 {n1 : Int} {n2 : Int} {n3 : Int} {σ : S0} (hT : c_T σ) (p1 : 0 ≤ n1) (p2 : n1 ≤ n2) (p3 : n2 ≤ 20000) (p4 : n3 = 0) : W_J7_fill_fda19_q74 n1 n2 n3 σ (fun (τ : S0) => (c_T τ) ∧ (∀ e : Int, n1 ≤ e → e < n2 → τ.2.1 58 e = n3)) := by
  intro P10 h10
  have l_10 : ∀ (m_10 : Nat) (u4_10 : Int) (τ_10 : S0), 20001 + 20001 - u4_10 < (m_10 : Int) → (c_T τ_10) → (n1 ≤ u4_10) → (u4_10 ≤ n2) → (∀ e : Int, n1 ≤ e → e < u4_10 → τ_10.2.1 58 e = n3) → P10 n2 n3 u4_10 τ_10 := by
    intro m_10
    induction m_10 with
    | zero =>
      intro u4_10 τ_10 hm hT i10_1 i10_2 i10_3
      exfalso; J_dt σ.P_low σ.P_high σ.T_rows (σ.P_data) (σ.P_at) (σ.P_size)
    | succ m_10 ih_10 =>
      intro u4_10 τ_10 hm_10 hT i10_1 i10_2 i10_3
      refine h10 n2 n3 u4_10 τ_10 ?_
      refine ⟨fun c4 => ?_, fun c4 => ?_⟩
      ·
        exact ⟨hT, (show ∀ e : Int, n1 ≤ e → e < n2 → τ_10.2.1 58 e = n3 from by exact fun e a b => i10_3 e a (by omega))⟩
      ·
        refine ⟨(show 0 ≤ u4_10 ∧ u4_10 < 20000 from by J_dt σ.P_low σ.P_high σ.T_rows (σ.P_data) (σ.P_at) (σ.P_size)), ?_⟩
        replace hT := cT_a (k := 58) (j := u4_10) hT (show (-2147483648 : Int) ≤ n3 ∧ n3 ≤ 2147483647 from by J_dt σ.P_low σ.P_high σ.T_rows (σ.P_data) (σ.P_at) (σ.P_size))
        refine ⟨(⟨by J_dt σ.P_low σ.P_high σ.T_rows (σ.P_data) (σ.P_at) (σ.P_size), by J_dt σ.P_low σ.P_high σ.T_rows (σ.P_data) (σ.P_at) (σ.P_size)⟩ : rg (u4_10 + 1)), ?_⟩
        exact ih_10 _ _ (show (20001 + 20001 - (u4_10 + 1) : Int) < ((m_10 : Nat) : Int) from by (J_dt σ.P_low σ.P_high σ.T_rows (σ.P_data) (σ.P_at) (σ.P_size))) hT (show n1 ≤ (u4_10 + 1) from by J_dt σ.P_low σ.P_high σ.T_rows (σ.P_data) (σ.P_at) (σ.P_size)) (show (u4_10 + 1) ≤ n2 from by J_dt σ.P_low σ.P_high σ.T_rows (σ.P_data) (σ.P_at) (σ.P_size)) (show ∀ e : Int, n1 ≤ e → e < (u4_10 + 1) → (st (τ_10.2.1 58) u4_10 n3) e = n3 from by (first | (intro e a b; exfalso; omega) | (intro e a b; by_cases z : e = u4_10; (rw [z, st_s]); exact (st_n _ _ z).trans (i10_3 e a (by omega)))))
  refine ⟨_, K_J7_rangeCheck_23922 hT (show 0 ≤ n1 from by J_dt σ.P_low σ.P_high σ.T_rows (σ.P_data) (σ.P_at) (σ.P_size)) (show n1 ≤ n2 from by J_dt σ.P_low σ.P_high σ.T_rows (σ.P_data) (σ.P_at) (σ.P_size)) (show n2 ≤ 20000 from by J_dt σ.P_low σ.P_high σ.T_rows (σ.P_data) (σ.P_at) (σ.P_size)), ?_⟩
  intro τ3 hn_τ3 hf_τ3 hq
  replace hT := hq
  exact l_10 ((20001 + 20001 - n1 : Int).toNat + 1) _ _ (show (20001 + 20001 - n1 : Int) < (((20001 + 20001 - n1 : Int).toNat + 1 : Nat) : Int) from by (J_dt σ.P_low σ.P_high σ.T_rows (σ.P_data) (σ.P_at) (σ.P_size))) hT (show n1 ≤ n1 from by J_dt σ.P_low σ.P_high σ.T_rows (σ.P_data) (σ.P_at) (σ.P_size)) (show n1 ≤ n2 from by J_dt σ.P_low σ.P_high σ.T_rows (σ.P_data) (σ.P_at) (σ.P_size)) (show ∀ e : Int, n1 ≤ e → e < n1 → τ3.2.1 58 e = n3 from by (first | (intro e a b; exfalso; omega) | (intro e a b; by_cases z : e = u4_10; (rw [z, st_s]); exact (st_n _ _ z).trans (i10_3 e a (by omega)))))
set_option maxHeartbeats 1000000 in
theorem K_X4_tell {n1 : Int} {σ : S0} (hT : c_T σ) (p1 : -20000 ≤ n1) (p2 : n1 ≤ 19999) : W_X4_tell n1 σ (fun (τ : S0) => (c_T τ) ∧ (20001 ≤ (σ.1 41) → τ.2.1 62 = σ.2.1 62 ∧ (τ.1 41) = (σ.1 41)) ∧ ((σ.1 41) < 20001 → τ.2.1 62 = st (σ.2.1 62) (σ.1 41) n1 ∧ (τ.1 41) = (σ.1 41) + 1)) := by
  have A62 : ∀ j, (-20000) ≤ σ.2.1 62 j ∧ σ.2.1 62 j ≤ 19999 := fun j => hT.2 62 j
  have v41 : 0 ≤ σ.1 41 ∧ σ.1 41 ≤ 20001 := hT.1 41
  unfold W_X4_tell
  refine ⟨fun c1 => ?_, fun c1 => ?_⟩
  ·
    exact ⟨hT, (show 20001 ≤ (σ.1 41) → σ.2.1 62 = σ.2.1 62 ∧ (σ.1 41) = (σ.1 41) from by (first | (intro z; exfalso; omega) | exact fun _ => ⟨rfl, rfl⟩)), (show (σ.1 41) < 20001 → σ.2.1 62 = st (σ.2.1 62) (σ.1 41) n1 ∧ (σ.1 41) = (σ.1 41) + 1 from by (first | (intro z; exfalso; omega) | exact fun _ => ⟨rfl, rfl⟩))⟩
  ·
    refine ⟨(show 0 ≤ σ.1 41 ∧ σ.1 41 < 20001 from by J_dt σ.P_low σ.P_high σ.T_rows (σ.P_data) (σ.P_at) (σ.P_size)), ?_⟩
    replace hT := cT_a (k := 62) (j := (σ.1 41)) hT (show (-20000 : Int) ≤ n1 ∧ n1 ≤ 19999 from by J_dt σ.P_low σ.P_high σ.T_rows (σ.P_data) (σ.P_at) (σ.P_size))
    refine ⟨(⟨by J_dt σ.P_low σ.P_high σ.T_rows (σ.P_data) (σ.P_at) (σ.P_size), by J_dt σ.P_low σ.P_high σ.T_rows (σ.P_data) (σ.P_at) (σ.P_size)⟩ : rg (σ.1 41 + 1)), ?_⟩
    replace hT := cT_v (i := 41) hT (show 0 ≤ (σ.1 41 + 1) ∧ (σ.1 41 + 1) ≤ 20001 from by J_dt σ.P_low σ.P_high σ.T_rows (σ.P_data) (σ.P_at) (σ.P_size))
    exact ⟨hT, (show 20001 ≤ (σ.1 41) → (st (σ.2.1 62) (σ.1 41) n1) = σ.2.1 62 ∧ ((σ.1 41 + 1)) = (σ.1 41) from by (first | (intro z; exfalso; omega) | exact fun _ => ⟨rfl, rfl⟩)), (show (σ.1 41) < 20001 → (st (σ.2.1 62) (σ.1 41) n1) = st (σ.2.1 62) (σ.1 41) n1 ∧ ((σ.1 41 + 1)) = (σ.1 41) + 1 from by (first | (intro z; exfalso; omega) | exact fun _ => ⟨rfl, rfl⟩))⟩
set_option maxHeartbeats 1000000 in
theorem K_J7_fill_53178_q76 {n1 : Int} {σ : S0} (hT : c_T σ) (p1 : n1 = 0) : W_J7_fill_53178_q76 n1 σ (fun (τ : S0) => (c_T τ) ∧ (∀ e : Int, 0 ≤ e → e < 1500 → τ.2.1 60 e = 0)) := by
  intro P5 h5
  have l_5 : ∀ (m_5 : Nat) (u2_5 : Int) (τ_5 : S0), 1501 - u2_5 < (m_5 : Int) → (c_T τ_5) → (0 ≤ u2_5) → (u2_5 ≤ 1500) → (∀ e : Int, 0 ≤ e → e < u2_5 → τ_5.2.1 60 e = 0) → P5 n1 u2_5 1500 τ_5 := by
    intro m_5
    induction m_5 with
    | zero =>
      intro u2_5 τ_5 hm hT i5_1 i5_2 i5_3
      exfalso; J_dt σ.P_low σ.P_high σ.T_rows (σ.P_data) (σ.P_at) (σ.P_size)
    | succ m_5 ih_5 =>
      intro u2_5 τ_5 hm_5 hT i5_1 i5_2 i5_3
      refine h5 n1 u2_5 1500 τ_5 ?_
      refine ⟨fun c1 => ?_, fun c1 => ?_⟩
      ·
        exact ⟨hT, (show ∀ e : Int, 0 ≤ e → e < 1500 → τ_5.2.1 60 e = 0 from by exact fun e a b => i5_3 e a (by omega))⟩
      ·
        refine ⟨(show 0 ≤ u2_5 ∧ u2_5 < 1500 from by J_dt σ.P_low σ.P_high σ.T_rows (σ.P_data) (σ.P_at) (σ.P_size)), ?_⟩
        replace hT := cT_a (k := 60) (j := u2_5) hT (show (0 : Int) ≤ n1 ∧ n1 ≤ 2000 from by J_dt σ.P_low σ.P_high σ.T_rows (σ.P_data) (σ.P_at) (σ.P_size))
        refine ⟨(⟨by J_dt σ.P_low σ.P_high σ.T_rows (σ.P_data) (σ.P_at) (σ.P_size), by J_dt σ.P_low σ.P_high σ.T_rows (σ.P_data) (σ.P_at) (σ.P_size)⟩ : rg (u2_5 + 1)), ?_⟩
        exact ih_5 _ _ (show (1501 - (u2_5 + 1) : Int) < ((m_5 : Nat) : Int) from by (J_dt σ.P_low σ.P_high σ.T_rows (σ.P_data) (σ.P_at) (σ.P_size))) hT (show 0 ≤ (u2_5 + 1) from by J_dt σ.P_low σ.P_high σ.T_rows (σ.P_data) (σ.P_at) (σ.P_size)) (show (u2_5 + 1) ≤ 1500 from by J_dt σ.P_low σ.P_high σ.T_rows (σ.P_data) (σ.P_at) (σ.P_size)) (show ∀ e : Int, 0 ≤ e → e < (u2_5 + 1) → (st (τ_5.2.1 60) u2_5 n1) e = 0 from by (first | (intro e a b; exfalso; omega) | (intro e a b; by_cases z : e = u2_5; (rw [z, st_s]; exact p1); exact (st_n _ _ z).trans (i5_3 e a (by omega)))))
  exact l_5 ((1501 - 0 : Int).toNat + 1) _ _ (show (1501 - 0 : Int) < (((1501 - 0 : Int).toNat + 1 : Nat) : Int) from by (J_dt σ.P_low σ.P_high σ.T_rows (σ.P_data) (σ.P_at) (σ.P_size))) hT (show 0 ≤ 0 from by J_dt σ.P_low σ.P_high σ.T_rows (σ.P_data) (σ.P_at) (σ.P_size)) (show 0 ≤ 1500 from by J_dt σ.P_low σ.P_high σ.T_rows (σ.P_data) (σ.P_at) (σ.P_size)) (show ∀ e : Int, 0 ≤ e → e < 0 → σ.2.1 60 e = 0 from by (first | (intro e a b; exfalso; omega) | (intro e a b; by_cases z : e = u2_5; (rw [z, st_s]; exact p1); exact (st_n _ _ z).trans (i5_3 e a (by omega)))))
set_option maxHeartbeats 1000000 in
theorem K_J7_fill_fda19_q58 {n1 : Int} {n2 : Int} {n3 : Int} {σ : S0} (hT : c_T σ) (p1 : 0 ≤ n1) (p2 : n1 ≤ n2) (p3 : n2 ≤ 20000) (p4 : n3 = 0) : W_J7_fill_fda19_q58 n1 n2 n3 σ (fun (τ : S0) => (c_T τ) ∧ (∀ e : Int, n1 ≤ e → e < n2 → τ.2.1 42 e = n3)) := by
  intro P10 h10
  have l_10 : ∀ (m_10 : Nat) (u4_10 : Int) (τ_10 : S0), 20001 + 20001 - u4_10 < (m_10 : Int) → (c_T τ_10) → (n1 ≤ u4_10) → (u4_10 ≤ n2) → (∀ e : Int, n1 ≤ e → e < u4_10 → τ_10.2.1 42 e = n3) → P10 n2 n3 u4_10 τ_10 := by
    intro m_10
    induction m_10 with
    | zero =>
      intro u4_10 τ_10 hm hT i10_1 i10_2 i10_3
      exfalso; J_dt σ.P_low σ.P_high σ.T_rows (σ.P_data) (σ.P_at) (σ.P_size)
    | succ m_10 ih_10 =>
      intro u4_10 τ_10 hm_10 hT i10_1 i10_2 i10_3
      refine h10 n2 n3 u4_10 τ_10 ?_
      refine ⟨fun c4 => ?_, fun c4 => ?_⟩
      ·
        exact ⟨hT, (show ∀ e : Int, n1 ≤ e → e < n2 → τ_10.2.1 42 e = n3 from by exact fun e a b => i10_3 e a (by omega))⟩
      ·
        refine ⟨(show 0 ≤ u4_10 ∧ u4_10 < 20000 from by J_dt σ.P_low σ.P_high σ.T_rows (σ.P_data) (σ.P_at) (σ.P_size)), ?_⟩
        replace hT := cT_a (k := 42) (j := u4_10) hT (show (-2147483648 : Int) ≤ n3 ∧ n3 ≤ 2147483647 from by J_dt σ.P_low σ.P_high σ.T_rows (σ.P_data) (σ.P_at) (σ.P_size))
        refine ⟨(⟨by J_dt σ.P_low σ.P_high σ.T_rows (σ.P_data) (σ.P_at) (σ.P_size), by J_dt σ.P_low σ.P_high σ.T_rows (σ.P_data) (σ.P_at) (σ.P_size)⟩ : rg (u4_10 + 1)), ?_⟩
        exact ih_10 _ _ (show (20001 + 20001 - (u4_10 + 1) : Int) < ((m_10 : Nat) : Int) from by (J_dt σ.P_low σ.P_high σ.T_rows (σ.P_data) (σ.P_at) (σ.P_size))) hT (show n1 ≤ (u4_10 + 1) from by J_dt σ.P_low σ.P_high σ.T_rows (σ.P_data) (σ.P_at) (σ.P_size)) (show (u4_10 + 1) ≤ n2 from by J_dt σ.P_low σ.P_high σ.T_rows (σ.P_data) (σ.P_at) (σ.P_size)) (show ∀ e : Int, n1 ≤ e → e < (u4_10 + 1) → (st (τ_10.2.1 42) u4_10 n3) e = n3 from by (first | (intro e a b; exfalso; omega) | (intro e a b; by_cases z : e = u4_10; (rw [z, st_s]); exact (st_n _ _ z).trans (i10_3 e a (by omega)))))
  refine ⟨_, K_J7_rangeCheck_23922 hT (show 0 ≤ n1 from by J_dt σ.P_low σ.P_high σ.T_rows (σ.P_data) (σ.P_at) (σ.P_size)) (show n1 ≤ n2 from by J_dt σ.P_low σ.P_high σ.T_rows (σ.P_data) (σ.P_at) (σ.P_size)) (show n2 ≤ 20000 from by J_dt σ.P_low σ.P_high σ.T_rows (σ.P_data) (σ.P_at) (σ.P_size)), ?_⟩
  intro τ3 hn_τ3 hf_τ3 hq
  replace hT := hq
  exact l_10 ((20001 + 20001 - n1 : Int).toNat + 1) _ _ (show (20001 + 20001 - n1 : Int) < (((20001 + 20001 - n1 : Int).toNat + 1 : Nat) : Int) from by (J_dt σ.P_low σ.P_high σ.T_rows (σ.P_data) (σ.P_at) (σ.P_size))) hT (show n1 ≤ n1 from by J_dt σ.P_low σ.P_high σ.T_rows (σ.P_data) (σ.P_at) (σ.P_size)) (show n1 ≤ n2 from by J_dt σ.P_low σ.P_high σ.T_rows (σ.P_data) (σ.P_at) (σ.P_size)) (show ∀ e : Int, n1 ≤ e → e < n1 → τ3.2.1 42 e = n3 from by (first | (intro e a b; exfalso; omega) | (intro e a b; by_cases z : e = u4_10; (rw [z, st_s]); exact (st_n _ _ z).trans (i10_3 e a (by omega)))))
