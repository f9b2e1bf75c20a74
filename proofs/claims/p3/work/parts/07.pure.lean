-- pure: intervals of a whole side
def c_T (σ : S0) : Prop := CTV σ.1 ∧ CTA σ.2.1
def m_T (σ : S0) : Prop := MTV σ.1 ∧ MTA σ.2.1
theorem cT_v {σ : S0} {i : Nat} {x : Int} (h : c_T σ) (hx : CLo i ≤ x ∧ x ≤ CHi i) : c_T (s_v σ i x) := ⟨CTV_up h.1 hx, h.2⟩
theorem mT_v {σ : S0} {i : Nat} {x : Int} (h : m_T σ) (hx : MLo i ≤ x ∧ x ≤ MHi i) : m_T (s_v σ i x) := ⟨MTV_up h.1 hx, h.2⟩
theorem cT_f {σ : S0} {k : Nat} {f : Int → Int} (h : c_T σ) (hf : ∀ j, CLa k j ≤ f j ∧ f j ≤ CHa k j) : c_T (s_f σ k f) := ⟨h.1, CTA_ua h.2 hf⟩
theorem mT_f {σ : S0} {k : Nat} {f : Int → Int} (h : m_T σ) (hf : ∀ j, MLa k j ≤ f j ∧ f j ≤ MHa k j) : m_T (s_f σ k f) := ⟨h.1, MTA_ua h.2 hf⟩
theorem cT_a {σ : S0} {k : Nat} {j x : Int} (h : c_T σ) (hx : CLa k j ≤ x ∧ x ≤ CHa k j) : c_T (s_a σ k j x) := ⟨h.1, CTA_ua h.2 (st_r (h.2 k) hx)⟩
theorem mT_a {σ : S0} {k : Nat} {j x : Int} (h : m_T σ) (hx : MLa k j ≤ x ∧ x ≤ MHa k j) : m_T (s_a σ k j x) := ⟨h.1, MTA_ua h.2 (st_r (h.2 k) hx)⟩
theorem cT_b {σ : S0} {k : Nat} {j : Int} {x : Int64} (h : c_T σ) : c_T (s_b σ k j x) := h
theorem mT_b {σ : S0} {k : Nat} {j : Int} {x : Int64} (h : m_T σ) : m_T (s_b σ k j x) := h
theorem cpy_r {f h : Int → Int} {lo hi : Int → Int} {sp dp n : Int} (c1 : ∀ j, lo 0 ≤ f j ∧ f j ≤ hi 0) (c2 : ∀ j, lo 0 ≤ h j ∧ h j ≤ hi 0) (e1 : ∀ j, lo j = lo 0) (e2 : ∀ j, hi j = hi 0) : ∀ j, lo j ≤ c_py f h sp dp n j ∧ c_py f h sp dp n j ≤ hi j := fun j => by
  rw [e1, e2]
  unfold c_py
  by_cases z : dp ≤ j ∧ j < dp + n
  · rw [if_pos z]; exact c1 _
  · rw [if_neg z]; exact c2 j
theorem marks_b {σ : S0} (h : c_T σ) (j : Int) : 0 ≤ σ.2.1 25 j ∧ σ.2.1 25 j ≤ 1500 := by
  have h1 := h.2 25 j
  refine ⟨h1.1, Int.le_trans h1.2 ?_⟩
  show (if j % 3 = 1 then (1500 : Int) else 1000) ≤ 1500
  by_cases z : j % 3 = 1
  · rw [if_pos z]; omega
  · rw [if_neg z]; omega
theorem marks_c {σ : S0} (h : c_T σ) (j : Int) : (0 ≤ σ.2.1 25 j ∧ σ.2.1 25 j ≤ 1500) ∧ (¬ j % 3 = 1 → σ.2.1 25 j ≤ 1000) := by
  refine ⟨marks_b h j, fun z => ?_⟩
  have h1 := (h.2 25 j).2
  rw [show CHa 25 j = (if j % 3 = 1 then (1500 : Int) else 1000) from rfl, if_neg z] at h1
  exact h1
theorem marks_s {j x : Int} (h0 : 0 ≤ x) (h : x ≤ 1000 ∨ (j % 3 = 1 ∧ x ≤ 1500)) : CLa 25 j ≤ x ∧ x ≤ CHa 25 j := by
  refine ⟨h0, ?_⟩
  show x ≤ (if j % 3 = 1 then (1500 : Int) else 1000)
  by_cases z : j % 3 = 1
  · rw [if_pos z]; omega
  · rw [if_neg z]; omega
theorem t_1_b (i : Int) : 0 ≤ t_1 i ∧ t_1 i ≤ 127 := by
  unfold t_1
  repeat' split
  all_goals omega
theorem t_2_b (i : Int) : 0 ≤ t_2 i ∧ t_2 i ≤ 127 := by
  unfold t_2
  repeat' split
  all_goals omega
def z_0 (x : Int) : Int := if x = 0 then 1 else 0
theorem z_e (x : Int) : (x = 0 ∧ z_0 x = 1) ∨ (¬ x = 0 ∧ z_0 x = 0) := by
  unfold z_0
  by_cases h : x = 0
  · rw [if_pos h]; exact Or.inl ⟨h, rfl⟩
  · rw [if_neg h]; exact Or.inr ⟨h, rfl⟩
/-- how many of the first n are taken (not -1) -/
def ocN (f : Int → Int) : Nat → Int
  | 0 => 0
  | n + 1 => ocN f n + (if f (n : Int) = -1 then 0 else 1)
noncomputable def c_40 : Nat := Classical.choose (⟨4096, rfl⟩ : ∃ n : Nat, n = 4096)
theorem c_40e : c_40 = 4096 := Classical.choose_spec (⟨4096, rfl⟩ : ∃ n : Nat, n = 4096)
noncomputable def oc (f : Int → Int) : Int := ocN f c_40
theorem ocN_st (f : Int → Int) (e x : Int) : ∀ n : Nat, ocN (st f e x) n ≤ ocN f n + 1 ∧ ((n : Int) ≤ e → ocN (st f e x) n = ocN f n)
  | 0 => ⟨by show (0 : Int) ≤ 0 + 1; omega, fun _ => rfl⟩
  | n + 1 => by
    have ih := ocN_st f e x n
    show ocN (st f e x) n + (if st f e x (n : Int) = -1 then 0 else 1) ≤ ocN f n + (if f (n : Int) = -1 then 0 else 1) + 1 ∧ (((n + 1 : Nat) : Int) ≤ e → ocN (st f e x) n + (if st f e x (n : Int) = -1 then 0 else 1) = ocN f n + (if f (n : Int) = -1 then 0 else 1))
    by_cases h : (n : Int) = e
    · refine ⟨?_, fun z => by omega⟩
      rw [ih.2 (by omega)]
      split <;> split <;> omega
    · rw [st_n f x h]
      refine ⟨by have := ih.1; omega, fun z => by rw [ih.2 (by omega)]⟩
theorem oc_st (f : Int → Int) (e x : Int) : oc (st f e x) ≤ oc f + 1 := (ocN_st f e x c_40).1
theorem ocN_ex (f : Int → Int) : ∀ n : Nat, ocN f n < (n : Int) → ∃ e : Int, 0 ≤ e ∧ e < (n : Int) ∧ f e = -1
  | 0, h => by have : (0 : Int) < 0 := h; omega
  | n + 1, h => by
    by_cases z : f (n : Int) = -1
    · exact ⟨n, by omega, by omega, z⟩
    · have h1 : ocN f n + (if f (n : Int) = -1 then 0 else 1) < ((n + 1 : Nat) : Int) := h
      rw [if_neg z] at h1
      obtain ⟨e, a, b, c⟩ := ocN_ex f n (by omega)
      exact ⟨e, a, by omega, c⟩
theorem oc_ex {f : Int → Int} (h : oc f < 4096) : ∃ e : Int, 0 ≤ e ∧ e < 4096 ∧ f e = -1 := by
  have h0 : ((c_40 : Nat) : Int) = 4096 := by rw [c_40e]; rfl
  have h1 := ocN_ex f c_40 (by rw [h0]; exact h)
  rw [c_40e] at h1
  exact h1
theorem ocN_0 (f : Int → Int) : ∀ n : Nat, (∀ e : Int, 0 ≤ e → e < (n : Int) → f e = -1) → ocN f n = 0
  | 0, _ => rfl
  | n + 1, h => by
    show ocN f n + (if f (n : Int) = -1 then 0 else 1) = 0
    rw [ocN_0 f n (fun e a b => h e a (by omega)), if_pos (h n (by omega) (by omega))]
    rfl
theorem oc_0 {f : Int → Int} (h : ∀ e : Int, 0 ≤ e → e < 4096 → f e = -1) : oc f = 0 := ocN_0 f c_40 (by rw [c_40e]; exact h)
/-- how many of the first n are not 0 -/
def caN (f : Int → Int) : Nat → Int
  | 0 => 0
  | n + 1 => caN f n + (if f (n : Int) = 0 then 0 else 1)
def ca (f : Int → Int) (n : Int) : Int := caN f n.toNat
theorem caN_b (f : Int → Int) : ∀ n : Nat, 0 ≤ caN f n ∧ caN f n ≤ (n : Int)
  | 0 => ⟨Int.le_refl 0, Int.le_refl 0⟩
  | n + 1 => by
    have ih := caN_b f n
    show 0 ≤ caN f n + (if f (n : Int) = 0 then 0 else 1) ∧ caN f n + (if f (n : Int) = 0 then 0 else 1) ≤ ((n + 1 : Nat) : Int)
    split <;> omega
theorem ca_b (f : Int → Int) {n : Int} (h : 0 ≤ n) : 0 ≤ ca f n ∧ ca f n ≤ n := by
  have := caN_b f n.toNat
  unfold ca
  omega
theorem ca_s (f : Int → Int) {n : Int} (h : 0 ≤ n) : ca f (n + 1) = ca f n + (if f n = 0 then 0 else 1) := by
  unfold ca
  obtain ⟨k, rfl⟩ := Int.eq_ofNat_of_zero_le h
  rw [show ((k : Int) + 1).toNat = k + 1 from by omega, show ((k : Int)).toNat = k from by omega]
  rfl
theorem caN_x {f g : Int → Int} : ∀ n : Nat, (∀ e : Int, 0 ≤ e → e < (n : Int) → f e = g e) → caN f n = caN g n
  | 0, _ => rfl
  | n + 1, h => by
    show caN f n + (if f (n : Int) = 0 then 0 else 1) = caN g n + (if g (n : Int) = 0 then 0 else 1)
    rw [caN_x n (fun e a b => h e a (by omega)), h n (by omega) (by omega)]
theorem ca_x {f g : Int → Int} {n : Int} (h : ∀ e : Int, 0 ≤ e → e < n → f e = g e) : ca f n = ca g n := caN_x n.toNat (fun e a b => h e a (by omega))
theorem caN_t (f : Int → Int) (e x : Int) (h0 : 0 ≤ e) : ∀ n : Nat, caN (st f e x) n = caN f n + (if e < (n : Int) then (if x = 0 then 0 else 1) - (if f e = 0 then 0 else 1) else 0)
  | 0 => by
    show (0 : Int) = 0 + _
    rw [if_neg (by omega)]; rfl
  | n + 1 => by
    have ih := caN_t f e x h0 n
    show caN (st f e x) n + (if st f e x (n : Int) = 0 then 0 else 1) = caN f n + (if f (n : Int) = 0 then 0 else 1) + _
    rw [ih]
    by_cases h : (n : Int) = e
    · have h1 : ¬ e < (n : Int) := by omega
      have h2 : e < ((n + 1 : Nat) : Int) := by omega
      rw [if_neg h1, if_pos h2, h, st_s]
      omega
    · rw [st_n f x h]
      by_cases z : e < (n : Int)
      · have h2 : e < ((n + 1 : Nat) : Int) := by omega
        rw [if_pos z, if_pos h2]; omega
      · have h2 : ¬ e < ((n + 1 : Nat) : Int) := by omega
        rw [if_neg z, if_neg h2]; omega
theorem ca_t (f : Int → Int) {e n : Int} (x : Int) (h0 : 0 ≤ e) (hn : 0 ≤ n) : ca (st f e x) n = ca f n + (if e < n then (if x = 0 then 0 else 1) - (if f e = 0 then 0 else 1) else 0) := by
  unfold ca
  rw [caN_t f e x h0]
  rw [show ((n.toNat : Nat) : Int) = n from by omega]
theorem ca_t0 (f : Int → Int) (e n x : Int) (h0 : 0 ≤ e) (hn : 0 ≤ n) : ca f n - 1 ≤ ca (st f e x) n ∧ ca (st f e x) n ≤ ca f n + 1 := by
  rw [ca_t f x h0 hn]
  repeat' split
  all_goals omega
theorem ca_t1 (f : Int → Int) (e n x : Int) (h0 : 0 ≤ e) (hn : e < n) (hf : f e = 0) (hx : ¬ x = 0) : ca (st f e x) n = ca f n + 1 := by
  rw [ca_t f x h0 (by omega), if_pos hn, if_neg hx, if_pos hf]
  omega
theorem ca_n (f : Int → Int) (e x : Int) (h0 : 0 ≤ e) : (x = 0 ∧ ca (st f e x) (e + 1) = ca f e) ∨ (¬ x = 0 ∧ ca (st f e x) (e + 1) = ca f e + 1) := by
  rw [ca_s _ h0, st_s, ca_t f x h0 h0, if_neg (by omega)]
  by_cases h : x = 0
  · rw [if_pos h]; exact Or.inl ⟨h, by omega⟩
  · rw [if_neg h]; exact Or.inr ⟨h, by omega⟩
/-- a row's digest -/
def h_l (f : Int → Int) (a h : Int) : Nat → Int
  | 0 => h
  | n + 1 => h_s (31 * h_l f a h n + f (a + (n : Int)))
theorem h_l_s (f : Int → Int) (a h : Int) {k : Int} (hk : 0 ≤ k) : h_l f a h (k + 1).toNat = h_s (31 * h_l f a h k.toNat + f (a + k)) := by
  obtain ⟨n, rfl⟩ := Int.eq_ofNat_of_zero_le hk
  rw [show ((n : Int) + 1).toNat = n + 1 from by omega, show ((n : Int)).toNat = n from by omega]
  rfl
def h_b (f : Int → Int) (a n : Int) : Int := h_x (h_l f a 0 n.toNat) (h_u (h_l f a 0 n.toNat) 12) % 4096
theorem h_l_e {f g : Int → Int} {a b h : Int} : ∀ n : Nat, (∀ k : Int, 0 ≤ k → k < (n : Int) → f (a + k) = g (b + k)) → h_l f a h n = h_l g b h n
  | 0, _ => rfl
  | n + 1, e => by
    show h_s (31 * h_l f a h n + f (a + (n : Int))) = h_s (31 * h_l g b h n + g (b + (n : Int)))
    rw [h_l_e n (fun k h0 h1 => e k h0 (by omega)), e n (by omega) (by omega)]
theorem h_b_e {f g : Int → Int} {a b n : Int} (e : ∀ k : Int, 0 ≤ k → k < n → f (a + k) = g (b + k)) : h_b f a n = h_b g b n := by
  unfold h_b
  rw [h_l_e n.toNat (fun k h0 h1 => e k h0 (by omega))]
def j_lt (f : Int → Int) (n : Int) : Prop := ∀ e : Int, f e < n
/-- frames, pairs, rows of statements lie within what there is -/
def J_fr (n : Int) (kd fa fs pa ps : Int → Int) : Prop := ∀ i : Int, 0 ≤ i → i < n → 2 ≤ kd i → fa i + fs i ≤ 90000 ∧ pa i + ps i ≤ 20000
def J_rw (n : Int) (kd ra rc : Int → Int) : Prop := ∀ i : Int, 0 ≤ i → i < n → kd i = 3 → 1 ≤ rc i ∧ ra i + rc i ≤ 20000
def J_a2 (n : Int) (a kd : Int → Int) : Prop := ∀ i : Int, 0 ≤ i → i < n → a i + 1 ≤ a (i + 1) ∧ (kd i = 0 → a i + 2 ≤ a (i + 1))
def j_lc (c : Int) : Prop := (97 ≤ c ∧ c ≤ 122) ∨ (65 ≤ c ∧ c ≤ 90) ∨ (48 ≤ c ∧ c ≤ 57) ∨ c = 46 ∨ c = 45 ∨ c = 95
/-- statements are not empty, floating hypotheses have two symbols -/
def J_at (σ : S0) : Prop := ∀ i : Int, 0 ≤ i → i < σ.1 7 → σ.2.1 14 i + 1 ≤ σ.2.1 14 (i + 1) ∧ (σ.2.1 13 i = 0 → σ.2.1 14 i + 2 ≤ σ.2.1 14 (i + 1))
/-- active floating hypotheses have a second symbol -/
def J_hf (σ : S0) : Prop := ∀ n : Int, 0 ≤ n → n < σ.1 9 → σ.2.1 13 (σ.2.1 22 n) = 0 → σ.2.1 14 (σ.2.1 22 n) + 1 < 30000
