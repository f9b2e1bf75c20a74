-- pure: intervals of a whole side
def c_T (σ : S0) : Prop := CTV σ.1 ∧ CTA σ.2.1
def m_T (σ : S0) : Prop := MTV σ.1 ∧ MTA σ.2.1
theorem cT_v {σ : S0} {i : Nat} {x : Int} (h : c_T σ) (hx : CLo i ≤ x ∧ x ≤ CHi i) : c_T (s_v σ i x) := ⟨CTV_up h.1 hx, h.2⟩
theorem mT_v {σ : S0} {i : Nat} {x : Int} (h : m_T σ) (hx : MLo i ≤ x ∧ x ≤ MHi i) : m_T (s_v σ i x) := ⟨MTV_up h.1 hx, h.2⟩
theorem cT_f {σ : S0} {k : Nat} {f : Int → Int} (h : c_T σ) (hf : ∀ j, CLa k j ≤ f j ∧ f j ≤ CHa k j) : c_T (s_f σ k f) := ⟨h.1, CTA_ua h.2 hf⟩
theorem mT_f {σ : S0} {k : Nat} {f : Int → Int} (h : m_T σ) (hf : ∀ j, MLa k j ≤ f j ∧ f j ≤ MHa k j) : m_T (s_f σ k f) := ⟨h.1, MTA_ua h.2 hf⟩
theorem cT_a {σ : S0} {k : Nat} {j x : Int} (h : c_T σ) (hx : CLa k j ≤ x ∧ x ≤ CHa k j) : c_T (s_a σ k j x) := ⟨h.1, CTA_ua h.2 (st_r (h.2 k) hx)⟩
theorem mT_a {σ : S0} {k : Nat} {j x : Int} (h : m_T σ) (hx : MLa k j ≤ x ∧ x ≤ MHa k j) : m_T (s_a σ k j x) := ⟨h.1, MTA_ua h.2 (st_r (h.2 k) hx)⟩
theorem cT_b {σ : S0} {k : Nat} {j : Int} {x : Int64} (h : c_T σ) : c_T (s_b σ k j x) := h
theorem mT_b {σ : S0} {k : Nat} {j : Int} {x : Int64} (h : m_T σ) : m_T (s_b σ k j x) := h
theorem cpy_r {f h : Int → Int} {lo hi : Int → Int} {sp dp n : Int} (c1 : ∀ j, lo 0 ≤ f j ∧ f j ≤ hi 0) (c2 : ∀ j, lo 0 ≤ h j ∧ h j ≤ hi 0) (e1 : ∀ j, lo j = lo 0) (e2 : ∀ j, hi j = hi 0) : ∀ j, lo j ≤ c_py f h sp dp n j ∧ c_py f h sp dp n j ≤ hi j := fun j => by
  rw [e1, e2]
  unfold c_py
  by_cases z : dp ≤ j ∧ j < dp + n
  · rw [if_pos z]; exact c1 _
  · rw [if_neg z]; exact c2 j
theorem marks_b {σ : S0} (h : c_T σ) (j : Int) : 0 ≤ σ.2.1 25 j ∧ σ.2.1 25 j ≤ 1500 := by
  have h1 := h.2 25 j
  refine ⟨h1.1, Int.le_trans h1.2 ?_⟩
  show (if j % 3 = 1 then (1500 : Int) else 1000) ≤ 1500
  by_cases z : j % 3 = 1
  · rw [if_pos z]; omega
  · rw [if_neg z]; omega
theorem marks_c {σ : S0} (h : c_T σ) (j : Int) : (0 ≤ σ.2.1 25 j ∧ σ.2.1 25 j ≤ 1500) ∧ (¬ j % 3 = 1 → σ.2.1 25 j ≤ 1000) := by
  refine ⟨marks_b h j, fun z => ?_⟩
  have h1 := (h.2 25 j).2
  rw [show CHa 25 j = (if j % 3 = 1 then (1500 : Int) else 1000) from rfl, if_neg z] at h1
  exact h1
theorem marks_s {j x : Int} (h0 : 0 ≤ x) (h : x ≤ 1000 ∨ (j % 3 = 1 ∧ x ≤ 1500)) : CLa 25 j ≤ x ∧ x ≤ CHa 25 j := by
  refine ⟨h0, ?_⟩
  show x ≤ (if j % 3 = 1 then (1500 : Int) else 1000)
  by_cases z : j % 3 = 1
  · rw [if_pos z]; omega
  · rw [if_neg z]; omega
theorem t_1_b (i : Int) : 0 ≤ t_1 i ∧ t_1 i ≤ 127 := by
  unfold t_1
  repeat' split
  all_goals omega
theorem t_2_b (i : Int) : 0 ≤ t_2 i ∧ t_2 i ≤ 127 := by
  unfold t_2
  repeat' split
  all_goals omega
/-- statements are not empty, floating hypotheses have two symbols -/
def J_at (σ : S0) : Prop := ∀ i : Int, 0 ≤ i → i < σ.1 7 → σ.2.1 14 i + 1 ≤ σ.2.1 14 (i + 1) ∧ (σ.2.1 13 i = 0 → σ.2.1 14 i + 2 ≤ σ.2.1 14 (i + 1))
/-- active floating hypotheses have a second symbol -/
def J_hf (σ : S0) : Prop := ∀ n : Int, 0 ≤ n → n < σ.1 9 → σ.2.1 13 (σ.2.1 22 n) = 0 → σ.2.1 14 (σ.2.1 22 n) + 1 < 30000
