-- pure: names of the model's symbols
def n_sp (f : Int → Int) (a n : Int) : Int := h_x (h_l f a n n.toNat) (h_u (h_l f a n n.toNat) 15) % 4096
theorem n_sp_e {f g : Int → Int} {a b n : Int} (e : ∀ k : Int, 0 ≤ k → k < n → f (a + k) = g (b + k)) : n_sp f a n = n_sp g b n := by
  unfold n_sp
  rw [h_l_e (h := n) n.toNat (fun k k0 k1 => e k k0 (by omega))]
/-- a symbol's name stands at a place of another row -/
def n_eq (C A Z : Int → Int) (s : Int) (f : Int → Int) (a n : Int) : Prop := Z s = n ∧ ∀ k : Int, 0 ≤ k → k < n → C (A s + k) = f (a + k)
/-- from a place on the table leads to s -/
def n_pt (T : Int → Int) (u s : Int) : Prop := ∃ e : Int, 0 ≤ e ∧ T ((u + e) % 4096) = s ∧ ∀ j : Int, 0 ≤ j → j < e → T ((u + j) % 4096) ≠ -1
theorem n_pt_n {T : Int → Int} {u s : Int} (h : n_pt T u s) (u0 : 0 ≤ u ∧ u < 4096) (z : T u ≠ s) : n_pt T ((u + 1) % 4096) s := by
  obtain ⟨e, e0, e1, e2⟩ := h
  have q : e ≠ 0 := fun q => by rw [q, show (u + 0) % 4096 = u by omega] at e1; exact z e1
  refine ⟨e - 1, by omega, by rw [show ((u + 1) % 4096 + (e - 1)) % 4096 = (u + e) % 4096 by omega]; exact e1, fun j j0 j1 => ?_⟩
  rw [show ((u + 1) % 4096 + j) % 4096 = (u + (j + 1)) % 4096 by omega]
  exact e2 (j + 1) (by omega) (by omega)
theorem n_pt_0 {T : Int → Int} {u s : Int} (h : n_pt T u s) (u0 : 0 ≤ u ∧ u < 4096) (s0 : 0 ≤ s) : T u ≠ -1 := by
  obtain ⟨e, e0, e1, e2⟩ := h
  by_cases q : e = 0
  · rw [q, show (u + 0) % 4096 = u by omega] at e1; omega
  · have w := e2 0 (Int.le_refl _) (by omega)
    rw [show (u + 0) % 4096 = u by omega] at w; exact w
theorem n_pt_s {T : Int → Int} {u s v x : Int} (h : n_pt T u s) (s0 : 0 ≤ s) (z : T v = -1) (x0 : 0 ≤ x) : n_pt (st T v x) u s := by
  obtain ⟨e, e0, e1, e2⟩ := h
  have a : (u + e) % 4096 ≠ v := fun q => by rw [q] at e1; omega
  refine ⟨e, e0, by rw [st_n _ _ a]; exact e1, fun j j0 j1 => ?_⟩
  by_cases q : (u + j) % 4096 = v
  · rw [q, st_s]; omega
  · rw [st_n _ _ q]; exact e2 j j0 j1
/-- the way to a free place -/
def n_pf (T : Int → Int) (u v : Int) : Prop := ∃ e : Int, 0 ≤ e ∧ (u + e) % 4096 = v ∧ ∀ j : Int, 0 ≤ j → j < e → T ((u + j) % 4096) ≠ -1
theorem n_pf_0 {T : Int → Int} {u : Int} (u0 : 0 ≤ u ∧ u < 4096) : n_pf T u u := ⟨0, Int.le_refl _, by omega, fun j a b => by omega⟩
theorem n_pf_n {T : Int → Int} {u v : Int} (h : n_pf T u v) (z : T v ≠ -1) : n_pf T u ((v + 1) % 4096) := by
  obtain ⟨e, e0, e1, e2⟩ := h
  refine ⟨e + 1, by omega, by omega, fun j a b => ?_⟩
  rcases (by omega : j < e ∨ j = e) with q | q
  · exact e2 j a q
  · rw [q, e1]; exact z
theorem n_pf_e {T : Int → Int} {u v x : Int} (h : n_pf T u v) (x0 : 0 ≤ x) : n_pt (st T v x) u x := by
  obtain ⟨e, e0, e1, e2⟩ := h
  refine ⟨e, e0, by rw [e1, st_s], fun j a b => ?_⟩
  by_cases q : (u + j) % 4096 = v
  · rw [q, st_s]; omega
  · rw [st_n _ _ q]; exact e2 j a b
/-- every symbol is found in the table; names stand below the count -/
def n_tb (sy : Int) (C A Z T : Int → Int) : Prop := ∀ s : Int, 0 ≤ s → s < sy → n_pt T (n_sp C (A s) (Z s)) s
def n_nm (sy cc : Int) (A Z : Int → Int) : Prop := ∀ s : Int, 0 ≤ s → s < sy → 0 ≤ A s ∧ A s + Z s ≤ cc
/-- the names of the two constants -/
def n_w (C A Z : Int → Int) (s : Int) : Prop := Z s = 3 ∧ C (A s) = 119 ∧ C (A s + 1) = 102 ∧ C (A s + 2) = 102
def n_t (C A Z : Int → Int) (s : Int) : Prop := Z s = 2 ∧ C (A s) = 124 ∧ C (A s + 1) = 45
/-- the two constants are the only symbols of these names -/
def n_tu (sy wf tu : Int) (C A Z : Int → Int) : Prop := ((wf < sy ∧ tu < sy) ∧ (0 ≤ wf → n_w C A Z wf) ∧ (0 ≤ tu → n_t C A Z tu)) ∧ ∀ s : Int, 0 ≤ s → s < sy → (n_w C A Z s → s = wf) ∧ (n_t C A Z s → s = tu)
theorem n_tu_a {sy wf tu wf' tu' cc : Int} {C A Z C' A' Z' : Int → Int} (h : n_tu sy wf tu C A Z) (nm : n_nm sy cc A Z) (eC : ∀ j : Int, j < cc → C' j = C j) (eA : ∀ s : Int, 0 ≤ s → s < sy → A' s = A s ∧ Z' s = Z s) (f : Int → Int) (a n : Int) (new : n_eq C' A' Z' sy f a n) (old : ∀ s : Int, 0 ≤ s → s < sy → ¬ n_eq C A Z s f a n) (s0 : 0 ≤ sy)
    (w1 : n_w C' A' Z' sy → wf' = sy) (w2 : ¬ n_w C' A' Z' sy → wf' = wf) (t1 : n_t C' A' Z' sy → tu' = sy) (t2 : ¬ n_t C' A' Z' sy → tu' = tu) : n_tu (sy + 1) wf' tu' C' A' Z' := by
  have cw : ∀ s : Int, 0 ≤ s → s < sy → (n_w C' A' Z' s → n_w C A Z s) ∧ (n_t C' A' Z' s → n_t C A Z s) := fun s a0 a1 => by
    obtain ⟨b0, b1⟩ := nm s a0 a1
    obtain ⟨e1, e2⟩ := eA s a0 a1
    unfold n_w n_t
    rw [e1, e2]
    refine ⟨fun ⟨z, x, y, w⟩ => ?_, fun ⟨z, x, y⟩ => ?_⟩
    · rw [eC _ (by omega)] at x y w; exact ⟨z, x, y, w⟩
    · rw [eC _ (by omega)] at x y; exact ⟨z, x, y⟩
  have nw : n_w C' A' Z' sy → ∀ s : Int, 0 ≤ s → s < sy → ¬ n_w C A Z s := fun ⟨z, x, y, w⟩ s a0 a1 ⟨z2, x2, y2, w2⟩ => by
    refine old s a0 a1 ⟨by have := new.1; omega, fun k k0 k1 => ?_⟩
    have v := new.2 k k0 k1
    have n3 : n = 3 := by have := new.1; omega
    rcases (by omega : k = 0 ∨ k = 1 ∨ k = 2) with q | q | q
    · rw [q] at v ⊢; rw [← v, show A s + 0 = A s by omega, show A' sy + 0 = A' sy by omega]; omega
    · rw [q] at v ⊢; rw [← v]; omega
    · rw [q] at v ⊢; rw [← v]; omega
  have nt : n_t C' A' Z' sy → ∀ s : Int, 0 ≤ s → s < sy → ¬ n_t C A Z s := fun ⟨z, x, y⟩ s a0 a1 ⟨z2, x2, y2⟩ => by
    refine old s a0 a1 ⟨by have := new.1; omega, fun k k0 k1 => ?_⟩
    have v := new.2 k k0 k1
    have n2 : n = 2 := by have := new.1; omega
    rcases (by omega : k = 0 ∨ k = 1) with q | q
    · rw [q] at v ⊢; rw [← v, show A s + 0 = A s by omega, show A' sy + 0 = A' sy by omega]; omega
    · rw [q] at v ⊢; rw [← v]; omega
  obtain ⟨⟨⟨h1, h2⟩, h4, h5⟩, h3⟩ := h
  have dw : ∀ s : Int, 0 ≤ s → s < sy → (n_w C A Z s → n_w C' A' Z' s) ∧ (n_t C A Z s → n_t C' A' Z' s) := fun s a0 a1 => by
    obtain ⟨b0, b1⟩ := nm s a0 a1
    obtain ⟨e1, e2⟩ := eA s a0 a1
    unfold n_w n_t
    rw [e1, e2]
    refine ⟨fun ⟨z, x, y, w⟩ => ?_, fun ⟨z, x, y⟩ => ?_⟩
    · rw [eC _ (by omega), eC _ (by omega), eC _ (by omega)]; exact ⟨z, x, y, w⟩
    · rw [eC _ (by omega), eC _ (by omega)]; exact ⟨z, x, y⟩
  refine ⟨⟨⟨?_, ?_⟩, fun z => ?_, fun z => ?_⟩, fun s a0 a1 => ?_⟩
  · by_cases q : n_w C' A' Z' sy
    · have := w1 q; omega
    · have := w2 q; omega
  · by_cases q : n_t C' A' Z' sy
    · have := t1 q; omega
    · have := t2 q; omega
  · by_cases q : n_w C' A' Z' sy
    · rw [w1 q]; exact q
    · rw [w2 q] at z ⊢; exact (dw _ z h1).1 (h4 z)
  · by_cases q : n_t C' A' Z' sy
    · rw [t1 q]; exact q
    · rw [t2 q] at z ⊢; exact (dw _ z h2).2 (h5 z)
  · rcases (by omega : s < sy ∨ s = sy) with q | q
    · refine ⟨fun z => ?_, fun z => ?_⟩
      · have z' := (cw s a0 q).1 z
        rw [w2 (fun y => nw y s a0 q z')]; exact (h3 s a0 q).1 z'
      · have z' := (cw s a0 q).2 z
        rw [t2 (fun y => nt y s a0 q z')]; exact (h3 s a0 q).2 z'
    · rw [q]
      exact ⟨fun z => (w1 z).symm, fun z => (t1 z).symm⟩
theorem n_nm_a {sy cc cc' n : Int} {A Z A' Z' : Int → Int} (h : n_nm sy cc A Z) (l : cc + n ≤ cc') (n0 : 0 ≤ n) (c0 : 0 ≤ cc) (e : ∀ s : Int, s < sy → A' s = A s ∧ Z' s = Z s) (e1 : A' sy = cc) (e2 : Z' sy = n) : n_nm (sy + 1) cc' A' Z' := fun s a b => by
  rcases (by omega : s < sy ∨ s = sy) with q | q
  · have w := h s a q
    rw [(e s q).1, (e s q).2]; omega
  · rw [q, e1, e2]; omega
theorem n_nm_w {sy cc cc' : Int} {A Z : Int → Int} (h : n_nm sy cc A Z) (l : cc ≤ cc') : n_nm sy cc' A Z := fun s a b => by have := h s a b; omega
/-- the table with one symbol more -/
theorem n_tb_a {sy cc v : Int} {C A Z T C' A' Z' T' : Int → Int} (h : n_tb sy C A Z T) (nm : n_nm sy cc A Z) (eC : ∀ j : Int, j < cc → C' j = C j) (eA : ∀ s : Int, 0 ≤ s → s < sy → A' s = A s ∧ Z' s = Z s) (s0 : 0 ≤ sy) (z : T v = -1) (eT : T' = st T v sy) (new : n_pt T' (n_sp C' (A' sy) (Z' sy)) sy) : n_tb (sy + 1) C' A' Z' T' := fun s a b => by
  rcases (by omega : s < sy ∨ s = sy) with q | q
  · have w := h s a q
    obtain ⟨b0, b1⟩ := nm s a q
    rw [(eA s a q).1, (eA s a q).2, n_sp_e (g := C) (b := A s) (fun k k0 k1 => eC _ (by omega)), eT]
    exact n_pt_s w a z s0
  · rw [q]; exact new
/-- the table with one symbol more, put in again -/
theorem n_tb_s {sy v : Int} {C A Z T T' : Int → Int} (h : n_tb sy C A Z T) (s0 : 0 ≤ sy) (z : T v = -1) (eT : T' = st T v sy) (new : n_pt T' (n_sp C (A sy) (Z sy)) sy) : n_tb (sy + 1) C A Z T' := fun s a b => by
  rcases (by omega : s < sy ∨ s = sy) with q | q
  · have w := h s a q
    rw [eT]; exact n_pt_s w a z s0
  · rw [q]; exact new
theorem n_tb_c {sy cc : Int} {C A Z T C' : Int → Int} (h : n_tb sy C A Z T) (nm : n_nm sy cc A Z) (e : ∀ j : Int, j < cc → C' j = C j) : n_tb sy C' A Z T := fun s a b => by
  have w := nm s a b
  rw [n_sp_e (g := C) (b := A s) (fun k k0 k1 => e _ (by omega))]; exact h s a b
theorem n_tu_c {sy cc wf tu : Int} {C A Z C' : Int → Int} (h : n_tu sy wf tu C A Z) (nm : n_nm sy cc A Z) (e : ∀ j : Int, j < cc → C' j = C j) : n_tu sy wf tu C' A Z := by
  have q : ∀ s : Int, 0 ≤ s → s < sy → (n_w C' A Z s ↔ n_w C A Z s) ∧ (n_t C' A Z s ↔ n_t C A Z s) := fun s a b => by
    have w := nm s a b
    unfold n_w n_t
    refine ⟨⟨fun ⟨z, x, y, u⟩ => ?_, fun ⟨z, x, y, u⟩ => ?_⟩, ⟨fun ⟨z, x, y⟩ => ?_, fun ⟨z, x, y⟩ => ?_⟩⟩
    · rw [e _ (by omega)] at x y u; exact ⟨z, x, y, u⟩
    · rw [e _ (by omega), e _ (by omega), e _ (by omega)]; exact ⟨z, x, y, u⟩
    · rw [e _ (by omega)] at x y; exact ⟨z, x, y⟩
    · rw [e _ (by omega), e _ (by omega)]; exact ⟨z, x, y⟩
  obtain ⟨⟨⟨h1, h2⟩, h4, h5⟩, h3⟩ := h
  exact ⟨⟨⟨h1, h2⟩, fun z => (q _ z h1).1.2 (h4 z), fun z => (q _ z h2).2.2 (h5 z)⟩, fun s a b => ⟨fun z => (h3 s a b).1 ((q s a b).1.1 z), fun z => (h3 s a b).2 ((q s a b).2.1 z)⟩⟩
/-- characters are added alone -/
def n_rc (σ τ : S0) : Prop := σ.1 2 ≤ τ.1 2 ∧ ∀ j : Int, j < σ.1 2 → τ.2.1 1 j = σ.2.1 1 j
theorem n_rc_0 (σ : S0) : n_rc σ σ := ⟨Int.le_refl _, fun _ _ => rfl⟩
theorem n_rc_t {σ τ υ : S0} (a : n_rc σ τ) (b : n_rc τ υ) : n_rc σ υ := ⟨by have := a.1; have := b.1; omega, fun j hj => (b.2 j (by have := a.1; omega)).trans (a.2 j hj)⟩
theorem n_fl {wv L : List Nat} (d : L.all (fun i => !wv.contains i) = true) : ∀ i, i ∈ L → i ∉ wv := fun i hi => by
  have := List.all_eq_true.mp d i hi
  simpa using this
theorem n_rc_h {σ τ : S0} {wv wa wb : List Nat} (hf : f_r wv wa wb σ τ) (d1 : [2].all (fun i => !wv.contains i) = true) (d2 : [1].all (fun i => !wa.contains i) = true) : n_rc σ τ := ⟨by rw [hf.1 2 (n_fl d1 2 (by decide))]; exact Int.le_refl _, fun j _ => by rw [hf.2.1 1 (n_fl d2 1 (by decide))]⟩
theorem n_rc_r {σ τ υ : S0} {wv wa wb : List Nat} (a : n_rc σ τ) (hf : f_r wv wa wb τ υ) (d1 : [2].all (fun i => !wv.contains i) = true) (d2 : [1].all (fun i => !wa.contains i) = true) : n_rc σ υ := n_rc_t a (n_rc_h hf d1 d2)
set_option maxHeartbeats 1000000 in
theorem K3_X13_spot_q2 {n1 : Int} {n2 : Int} {σ : S0} (hT : m_T σ) (p1 : 0 ≤ n1) (p2 : n1 + n2 ≤ 30100) : W_X13_spot_q2 n1 n2 σ (fun (x : Int) => (0 ≤ x ∧ x < 4096) ∧ (x = n_sp (σ.2.1 1) n1 n2)) := by
  intro P5 h5
  have l_5 : ∀ (m_5 : Nat) (u3_5 : Int) (u4_5 : Int), 60001 - u4_5 < (m_5 : Int) → (0 ≤ u4_5) → (u4_5 ≤ 60000) → (u3_5 = h_l (σ.2.1 1) n1 n2 (Int.toNat u4_5)) → (u4_5 ≤ n2 ∨ u4_5 = 0) → P5 n1 n2 u3_5 u4_5 := by
    intro m_5
    induction m_5 with
    | zero =>
      intro u3_5 u4_5 hm i5_1 i5_2 i5_3 i5_4
      exfalso; (first | omega | (simp only [st_s] <;> omega) | assumption | omega | fail)
    | succ m_5 ih_5 =>
      intro u3_5 u4_5 hm_5 i5_1 i5_2 i5_3 i5_4
      refine h5 n1 n2 u3_5 u4_5 ?_
      refine ⟨fun c1 => ?_, fun c1 => ?_⟩
      ·
        intro x2 r_x2 e_x2
        intro x3 r_x3 e_x3
        exact ⟨(show 0 ≤ (x3 % 4096) ∧ (x3 % 4096) < 4096 from by (first | omega | (simp only [st_s] <;> omega) | assumption | omega | fail)), (show (x3 % 4096) = n_sp (σ.2.1 1) n1 n2 from by (unfold n_sp; rw [e_x3, e_x2, i5_3, show n2.toNat = u4_5.toNat from by omega]))⟩
      ·
        refine ⟨(show 0 ≤ (n1 + u4_5) ∧ (n1 + u4_5) < 30100 from by (first | omega | (simp only [st_s] <;> omega) | assumption | omega | fail)), ?_⟩
        intro x5 r_x5 e_x5
        have b_x5 : 0 ≤ x5 ∧ x5 ≤ 255 := by rw [e_x5]; exact hT.2 1 _
        intro x6 r_x6 e_x6
        refine ⟨(⟨by (first | omega | (simp only [st_s] <;> omega) | assumption | omega | fail), by (first | omega | (simp only [st_s] <;> omega) | assumption | omega | fail)⟩ : rg (u4_5 + 1)), ?_⟩
        exact ih_5 _ _ (show (60001 - (u4_5 + 1) : Int) < ((m_5 : Nat) : Int) from by ((first | omega | (simp only [st_s] <;> omega) | assumption | omega | fail))) (show 0 ≤ (u4_5 + 1) from by (first | omega | (simp only [st_s] <;> omega) | assumption | omega | fail)) (show (u4_5 + 1) ≤ 60000 from by (first | omega | (simp only [st_s] <;> omega) | assumption | omega | fail)) (show x6 = h_l (σ.2.1 1) n1 n2 (Int.toNat (u4_5 + 1)) from by (first | rfl | (rw [h_l_s _ _ _ (by omega), ← i5_3, ← e_x5, e_x6]) | fail)) (show (u4_5 + 1) ≤ n2 ∨ (u4_5 + 1) = 0 from by (first | omega | (simp only [st_s] <;> omega) | assumption | omega | fail))
  exact l_5 ((60001 - 0 : Int).toNat + 1) _ _ (show (60001 - 0 : Int) < (((60001 - 0 : Int).toNat + 1 : Nat) : Int) from by ((first | omega | (simp only [st_s] <;> omega) | assumption | omega | fail))) (show 0 ≤ 0 from by (first | omega | (simp only [st_s] <;> omega) | assumption | omega | fail)) (show 0 ≤ 60000 from by (first | omega | (simp only [st_s] <;> omega) | assumption | omega | fail)) (show n2 = h_l (σ.2.1 1) n1 n2 (Int.toNat 0) from by (first | rfl | (rw [h_l_s _ _ _ (by omega), ← i5_3, ← e_x5, e_x6]) | fail)) (show 0 ≤ n2 ∨ 0 = 0 from by (first | omega | (simp only [st_s] <;> omega) | assumption | omega | fail))
set_option maxHeartbeats 1000000 in
theorem K3_X13_keepChars {n1 : Int} {n2 : Int} {σ : S0} (hT : m_T σ) (p1 : 0 ≤ n1) (p2 : 0 ≤ n2) (p3 : n1 + n2 ≤ 60000) (p4 : (σ.1 2) + n2 ≤ 30000) : W_X13_keepChars n1 n2 σ (fun (τ : S0) => (m_T τ) ∧ ((τ.1 2) = (σ.1 2) + n2) ∧ (∀ j : Int, j < (σ.1 2) → τ.2.1 1 j = σ.2.1 1 j) ∧ (∀ k : Int, 0 ≤ k → k < n2 → τ.2.1 1 ((σ.1 2) + k) = σ.2.1 0 (n1 + k))) := by
  have A0 : ∀ j, 0 ≤ σ.2.1 0 j ∧ σ.2.1 0 j ≤ 255 := fun j => hT.2 0 j
  have A1 : ∀ j, 0 ≤ σ.2.1 1 j ∧ σ.2.1 1 j ≤ 255 := fun j => hT.2 1 j
  have v2 : 0 ≤ σ.1 2 ∧ σ.1 2 ≤ 30000 := hT.1 2
  have G0 : σ.2.1 0 = σ.2.1 0 := rfl
  intro P2 h2
  have l_2 : ∀ (m_2 : Nat) (u3_2 : Int) (τ_2 : S0), n2 - u3_2 + 1 < (m_2 : Int) → (m_T τ_2) → (τ_2.2.1 0 = σ.2.1 0) → ((τ_2.1 2) = (σ.1 2)) → (0 ≤ u3_2) → (u3_2 ≤ n2) → (∀ j : Int, j < (σ.1 2) → τ_2.2.1 1 j = σ.2.1 1 j) → (∀ k : Int, 0 ≤ k → k < u3_2 → τ_2.2.1 1 ((σ.1 2) + k) = σ.2.1 0 (n1 + k)) → P2 n1 n2 u3_2 τ_2 := by
    intro m_2
    induction m_2 with
    | zero =>
      intro u3_2 τ_2 hm hT G0 i2_1 i2_2 i2_3 i2_4 i2_5
      have A0 : ∀ j, 0 ≤ τ_2.2.1 0 j ∧ τ_2.2.1 0 j ≤ 255 := fun j => hT.2 0 j
      have A1 : ∀ j, 0 ≤ τ_2.2.1 1 j ∧ τ_2.2.1 1 j ≤ 255 := fun j => hT.2 1 j
      have v2 : 0 ≤ τ_2.1 2 ∧ τ_2.1 2 ≤ 30000 := hT.1 2
      exfalso; (first | omega | (simp only [st_s] <;> omega) | assumption | omega | fail)
    | succ m_2 ih_2 =>
      intro u3_2 τ_2 hm_2 hT G0 i2_1 i2_2 i2_3 i2_4 i2_5
      have A0 : ∀ j, 0 ≤ τ_2.2.1 0 j ∧ τ_2.2.1 0 j ≤ 255 := fun j => hT.2 0 j
      have A1 : ∀ j, 0 ≤ τ_2.2.1 1 j ∧ τ_2.2.1 1 j ≤ 255 := fun j => hT.2 1 j
      have v2 : 0 ≤ τ_2.1 2 ∧ τ_2.1 2 ≤ 30000 := hT.1 2
      refine h2 n1 n2 u3_2 τ_2 ?_
      refine ⟨fun c1 => ?_, fun c1 => ?_⟩
      ·
        refine ⟨(⟨by (first | omega | (simp only [st_s] <;> omega) | assumption | omega | fail), by (first | omega | (simp only [st_s] <;> omega) | assumption | omega | fail)⟩ : rg (τ_2.1 2 + n2)), ?_⟩
        replace hT := mT_v (i := 2) hT (show 0 ≤ (τ_2.1 2 + n2) ∧ (τ_2.1 2 + n2) ≤ 30000 from by (first | omega | (simp only [st_s] <;> omega) | assumption | omega | fail))
        exact ⟨hT, (show ((τ_2.1 2 + n2)) = (σ.1 2) + n2 from by (first | omega | (simp only [st_s] <;> omega) | assumption | omega | fail)), (show ∀ j : Int, j < (σ.1 2) → τ_2.2.1 1 j = σ.2.1 1 j from by exact i2_4), (show ∀ k : Int, 0 ≤ k → k < n2 → τ_2.2.1 1 ((σ.1 2) + k) = σ.2.1 0 (n1 + k) from by (intro k a b; exact i2_5 k a (by omega)))⟩
      ·
        refine ⟨(show 0 ≤ (n1 + u3_2) ∧ (n1 + u3_2) < 60000 from by (first | omega | (simp only [st_s] <;> omega) | assumption | omega | fail)), ?_⟩
        intro x4 r_x4 e_x4
        have b_x4 : 0 ≤ x4 ∧ x4 ≤ 255 := by rw [e_x4]; exact hT.2 0 _
        refine ⟨(show 0 ≤ (τ_2.1 2 + u3_2) ∧ (τ_2.1 2 + u3_2) < 30100 from by (first | omega | (simp only [st_s] <;> omega) | assumption | omega | fail)), ?_⟩
        replace hT := mT_a (k := 1) (j := (τ_2.1 2 + u3_2)) hT (show (0 : Int) ≤ x4 ∧ x4 ≤ 255 from by (first | omega | (simp only [st_s] <;> omega) | assumption | omega | fail))
        refine ⟨(⟨by (first | omega | (simp only [st_s] <;> omega) | assumption | omega | fail), by (first | omega | (simp only [st_s] <;> omega) | assumption | omega | fail)⟩ : rg (u3_2 + 1)), ?_⟩
        exact ih_2 _ _ (show (n2 - (u3_2 + 1) + 1 : Int) < ((m_2 : Nat) : Int) from by ((first | omega | (simp only [st_s] <;> omega) | assumption | omega | fail))) hT G0 (show (τ_2.1 2) = (σ.1 2) from by (first | omega | (simp only [st_s] <;> omega) | assumption | omega | fail)) (show 0 ≤ (u3_2 + 1) from by (first | omega | (simp only [st_s] <;> omega) | assumption | omega | fail)) (show (u3_2 + 1) ≤ n2 from by (first | omega | (simp only [st_s] <;> omega) | assumption | omega | fail)) (show ∀ j : Int, j < (σ.1 2) → (st (τ_2.2.1 1) (τ_2.1 2 + u3_2) x4) j = σ.2.1 1 j from by (first | (intro j a; rfl) | (intro j a; rw [st_n _ _ (by omega)]; exact i2_4 j a) | fail)) (show ∀ k : Int, 0 ≤ k → k < (u3_2 + 1) → (st (τ_2.2.1 1) (τ_2.1 2 + u3_2) x4) ((σ.1 2) + k) = σ.2.1 0 (n1 + k) from by (first | (intro k a b; exfalso; omega) | (intro k a b; by_cases z : k = u3_2; (rw [z, show σ.1 2 + u3_2 = τ_2.1 2 + u3_2 from by omega, st_s, e_x4, G0]); (rw [st_n _ _ (by omega)]; exact i2_5 k a (by omega))) | fail))
  exact l_2 ((n2 - 0 + 1 : Int).toNat + 1) _ _ (show (n2 - 0 + 1 : Int) < (((n2 - 0 + 1 : Int).toNat + 1 : Nat) : Int) from by ((first | omega | (simp only [st_s] <;> omega) | assumption | omega | fail))) hT G0 (show (σ.1 2) = (σ.1 2) from by (first | omega | (simp only [st_s] <;> omega) | assumption | omega | fail)) (show 0 ≤ 0 from by (first | omega | (simp only [st_s] <;> omega) | assumption | omega | fail)) (show 0 ≤ n2 from by (first | omega | (simp only [st_s] <;> omega) | assumption | omega | fail)) (show ∀ j : Int, j < (σ.1 2) → σ.2.1 1 j = σ.2.1 1 j from by (first | (intro j a; rfl) | (intro j a; rw [st_n _ _ (by omega)]; exact i2_4 j a) | fail)) (show ∀ k : Int, 0 ≤ k → k < 0 → σ.2.1 1 ((σ.1 2) + k) = σ.2.1 0 (n1 + k) from by (first | (intro k a b; exfalso; omega) | (intro k a b; by_cases z : k = u3_2; (rw [z, show σ.1 2 + u3_2 = τ_2.1 2 + u3_2 from by omega, st_s, e_x4, G0]); (rw [st_n _ _ (by omega)]; exact i2_5 k a (by omega))) | fail))
set_option maxHeartbeats 1000000 in
theorem K3_X13_spot_q1 {n1 : Int} {n2 : Int} {σ : S0} (hT : m_T σ) (p1 : 0 ≤ n1) (p2 : n1 + n2 ≤ 60000) : W_X13_spot_q1 n1 n2 σ (fun (x : Int) => (0 ≤ x ∧ x < 4096) ∧ (x = n_sp (σ.2.1 0) n1 n2)) := by
  intro P5 h5
  have l_5 : ∀ (m_5 : Nat) (u3_5 : Int) (u4_5 : Int), 60001 - u4_5 < (m_5 : Int) → (0 ≤ u4_5) → (u4_5 ≤ 60000) → (u3_5 = h_l (σ.2.1 0) n1 n2 (Int.toNat u4_5)) → (u4_5 ≤ n2 ∨ u4_5 = 0) → P5 n1 n2 u3_5 u4_5 := by
    intro m_5
    induction m_5 with
    | zero =>
      intro u3_5 u4_5 hm i5_1 i5_2 i5_3 i5_4
      exfalso; (first | omega | (simp only [st_s] <;> omega) | assumption | omega | fail)
    | succ m_5 ih_5 =>
      intro u3_5 u4_5 hm_5 i5_1 i5_2 i5_3 i5_4
      refine h5 n1 n2 u3_5 u4_5 ?_
      refine ⟨fun c1 => ?_, fun c1 => ?_⟩
      ·
        intro x2 r_x2 e_x2
        intro x3 r_x3 e_x3
        exact ⟨(show 0 ≤ (x3 % 4096) ∧ (x3 % 4096) < 4096 from by (first | omega | (simp only [st_s] <;> omega) | assumption | omega | fail)), (show (x3 % 4096) = n_sp (σ.2.1 0) n1 n2 from by (unfold n_sp; rw [e_x3, e_x2, i5_3, show n2.toNat = u4_5.toNat from by omega]))⟩
      ·
        refine ⟨(show 0 ≤ (n1 + u4_5) ∧ (n1 + u4_5) < 60000 from by (first | omega | (simp only [st_s] <;> omega) | assumption | omega | fail)), ?_⟩
        intro x5 r_x5 e_x5
        have b_x5 : 0 ≤ x5 ∧ x5 ≤ 255 := by rw [e_x5]; exact hT.2 0 _
        intro x6 r_x6 e_x6
        refine ⟨(⟨by (first | omega | (simp only [st_s] <;> omega) | assumption | omega | fail), by (first | omega | (simp only [st_s] <;> omega) | assumption | omega | fail)⟩ : rg (u4_5 + 1)), ?_⟩
        exact ih_5 _ _ (show (60001 - (u4_5 + 1) : Int) < ((m_5 : Nat) : Int) from by ((first | omega | (simp only [st_s] <;> omega) | assumption | omega | fail))) (show 0 ≤ (u4_5 + 1) from by (first | omega | (simp only [st_s] <;> omega) | assumption | omega | fail)) (show (u4_5 + 1) ≤ 60000 from by (first | omega | (simp only [st_s] <;> omega) | assumption | omega | fail)) (show x6 = h_l (σ.2.1 0) n1 n2 (Int.toNat (u4_5 + 1)) from by (first | rfl | (rw [h_l_s _ _ _ (by omega), ← i5_3, ← e_x5, e_x6]) | fail)) (show (u4_5 + 1) ≤ n2 ∨ (u4_5 + 1) = 0 from by (first | omega | (simp only [st_s] <;> omega) | assumption | omega | fail))
  exact l_5 ((60001 - 0 : Int).toNat + 1) _ _ (show (60001 - 0 : Int) < (((60001 - 0 : Int).toNat + 1 : Nat) : Int) from by ((first | omega | (simp only [st_s] <;> omega) | assumption | omega | fail))) (show 0 ≤ 0 from by (first | omega | (simp only [st_s] <;> omega) | assumption | omega | fail)) (show 0 ≤ 60000 from by (first | omega | (simp only [st_s] <;> omega) | assumption | omega | fail)) (show n2 = h_l (σ.2.1 0) n1 n2 (Int.toNat 0) from by (first | rfl | (rw [h_l_s _ _ _ (by omega), ← i5_3, ← e_x5, e_x6]) | fail)) (show 0 ≤ n2 ∨ 0 = 0 from by (first | omega | (simp only [st_s] <;> omega) | assumption | omega | fail))
set_option maxHeartbeats 1000000 in
theorem K3_X13_isName_q1 {n1 : Int} {n2 : Int} {n4 : Int} {n5 : Int} {σ : S0} (hT : m_T σ) (p1 : 0 ≤ n1) (p2 : n1 + n2 ≤ 30100) (p3 : 0 ≤ n4) (p4 : n4 + n5 ≤ 60000) : W_X13_isName_q1 n1 n2 n4 n5 σ (fun (x : Int) => (0 ≤ x ∧ x ≤ 1) ∧ (x = 1 → n2 = n5 ∧ ∀ k : Int, 0 ≤ k → k < n5 → σ.2.1 1 (n1 + k) = σ.2.1 0 (n4 + k)) ∧ (x = 0 → ¬ (n2 = n5 ∧ ∀ k : Int, 0 ≤ k → k < n5 → σ.2.1 1 (n1 + k) = σ.2.1 0 (n4 + k)))) := by
  intro P11 h11
  have l_11 : ∀ (m_11 : Nat) (u6_11 : Int), 60001 - u6_11 < (m_11 : Int) → (n2 = n5) → (0 ≤ u6_11) → (u6_11 ≤ 60000) → (∀ k : Int, 0 ≤ k → k < u6_11 → σ.2.1 1 (n1 + k) = σ.2.1 0 (n4 + k)) → P11 n1 n4 n5 u6_11 := by
    intro m_11
    induction m_11 with
    | zero =>
      intro u6_11 hm i11_1 i11_2 i11_3 i11_4
      exfalso; (first | omega | (simp only [st_s] <;> omega) | assumption | omega | fail)
    | succ m_11 ih_11 =>
      intro u6_11 hm_11 i11_1 i11_2 i11_3 i11_4
      refine h11 n1 n4 n5 u6_11 ?_
      refine ⟨fun c2 => ?_, fun c2 => ?_⟩
      ·
        exact ⟨(show 0 ≤ 1 ∧ 1 ≤ 1 from by (first | omega | (simp only [st_s] <;> omega) | assumption | omega | fail)), (show 1 = 1 → n2 = n5 ∧ ∀ k : Int, 0 ≤ k → k < n5 → σ.2.1 1 (n1 + k) = σ.2.1 0 (n4 + k) from by (first | (intro z; exfalso; omega) | (intro _; exact ⟨by omega, fun k a b => i11_4 k a (by omega)⟩) | fail)), (show 1 = 0 → ¬ (n2 = n5 ∧ ∀ k : Int, 0 ≤ k → k < n5 → σ.2.1 1 (n1 + k) = σ.2.1 0 (n4 + k)) from by (first | (intro z; exfalso; omega) | (intro _ h; omega) | (intro _ h; have w := h.2 u6_11 (by omega) (by omega); rw [← e_x4, ← e_x6] at w; exact absurd w (by assumption)) | fail))⟩
      ·
        refine ⟨(show 0 ≤ (n1 + u6_11) ∧ (n1 + u6_11) < 30100 from by (first | omega | (simp only [st_s] <;> omega) | assumption | omega | fail)), ?_⟩
        intro x4 r_x4 e_x4
        have b_x4 : 0 ≤ x4 ∧ x4 ≤ 255 := by rw [e_x4]; exact hT.2 1 _
        refine ⟨(show 0 ≤ (n4 + u6_11) ∧ (n4 + u6_11) < 60000 from by (first | omega | (simp only [st_s] <;> omega) | assumption | omega | fail)), ?_⟩
        intro x6 r_x6 e_x6
        have b_x6 : 0 ≤ x6 ∧ x6 ≤ 255 := by rw [e_x6]; exact hT.2 0 _
        refine ⟨fun c7 => ?_, fun c7 => ?_⟩
        ·
          refine ⟨(⟨by (first | omega | (simp only [st_s] <;> omega) | assumption | omega | fail), by (first | omega | (simp only [st_s] <;> omega) | assumption | omega | fail)⟩ : rg (u6_11 + 1)), ?_⟩
          exact ih_11 _ (show (60001 - (u6_11 + 1) : Int) < ((m_11 : Nat) : Int) from by ((first | omega | (simp only [st_s] <;> omega) | assumption | omega | fail))) (show n2 = n5 from by (first | omega | (simp only [st_s] <;> omega) | assumption | omega | fail)) (show 0 ≤ (u6_11 + 1) from by (first | omega | (simp only [st_s] <;> omega) | assumption | omega | fail)) (show (u6_11 + 1) ≤ 60000 from by (first | omega | (simp only [st_s] <;> omega) | assumption | omega | fail)) (show ∀ k : Int, 0 ≤ k → k < (u6_11 + 1) → σ.2.1 1 (n1 + k) = σ.2.1 0 (n4 + k) from by (first | (intro k a b; exfalso; omega) | (intro k a b; by_cases z : k = u6_11; (rw [z, ← e_x4, ← e_x6]; assumption); exact i11_4 k a (by omega)) | fail))
        ·
          exact ⟨(show 0 ≤ 0 ∧ 0 ≤ 1 from by (first | omega | (simp only [st_s] <;> omega) | assumption | omega | fail)), (show 0 = 1 → n2 = n5 ∧ ∀ k : Int, 0 ≤ k → k < n5 → σ.2.1 1 (n1 + k) = σ.2.1 0 (n4 + k) from by (first | (intro z; exfalso; omega) | (intro _; exact ⟨by omega, fun k a b => i11_4 k a (by omega)⟩) | fail)), (show 0 = 0 → ¬ (n2 = n5 ∧ ∀ k : Int, 0 ≤ k → k < n5 → σ.2.1 1 (n1 + k) = σ.2.1 0 (n4 + k)) from by (first | (intro z; exfalso; omega) | (intro _ h; omega) | (intro _ h; have w := h.2 u6_11 (by omega) (by omega); rw [← e_x4, ← e_x6] at w; exact absurd w (by assumption)) | fail))⟩
  refine ⟨fun c1 => ?_, fun c1 => ?_⟩
  ·
    exact l_11 ((60001 - 0 : Int).toNat + 1) _ (show (60001 - 0 : Int) < (((60001 - 0 : Int).toNat + 1 : Nat) : Int) from by ((first | omega | (simp only [st_s] <;> omega) | assumption | omega | fail))) (show n2 = n5 from by (first | omega | (simp only [st_s] <;> omega) | assumption | omega | fail)) (show 0 ≤ 0 from by (first | omega | (simp only [st_s] <;> omega) | assumption | omega | fail)) (show 0 ≤ 60000 from by (first | omega | (simp only [st_s] <;> omega) | assumption | omega | fail)) (show ∀ k : Int, 0 ≤ k → k < 0 → σ.2.1 1 (n1 + k) = σ.2.1 0 (n4 + k) from by (first | (intro k a b; exfalso; omega) | (intro k a b; by_cases z : k = u6_11; (rw [z, ← e_x4, ← e_x6]; assumption); exact i11_4 k a (by omega)) | fail))
  ·
    exact ⟨(show 0 ≤ 0 ∧ 0 ≤ 1 from by (first | omega | (simp only [st_s] <;> omega) | assumption | omega | fail)), (show 0 = 1 → n2 = n5 ∧ ∀ k : Int, 0 ≤ k → k < n5 → σ.2.1 1 (n1 + k) = σ.2.1 0 (n4 + k) from by (first | (intro z; exfalso; omega) | (intro _; exact ⟨by omega, fun k a b => i11_4 k a (by omega)⟩) | fail)), (show 0 = 0 → ¬ (n2 = n5 ∧ ∀ k : Int, 0 ≤ k → k < n5 → σ.2.1 1 (n1 + k) = σ.2.1 0 (n4 + k)) from by (first | (intro z; exfalso; omega) | (intro _ h; omega) | (intro _ h; have w := h.2 u6_11 (by omega) (by omega); rw [← e_x4, ← e_x6] at w; exact absurd w (by assumption)) | fail))⟩
set_option maxHeartbeats 1000000 in
theorem K3_X13_findSymbol_q1 {n2 : Int} {n3 : Int} {σ : S0} (hT : m_T σ) (p1 : 0 ≤ n2) (p2 : n2 + n3 ≤ 60000) (p3 : oc (σ.2.1 6) < 4096) (p4 : n_tb (σ.1 3) (σ.2.1 1) (σ.2.1 2) (σ.2.1 3) (σ.2.1 6)) : W_X13_findSymbol_q1 n2 n3 σ (fun (x : Int) => (-1 ≤ x ∧ x ≤ 999) ∧ (x = -1 ∨ ∃ e : Int, (0 ≤ e ∧ e < 4096) ∧ x = σ.2.1 6 e) ∧ (x = -1 → ∀ s : Int, 0 ≤ s → s < (σ.1 3) → ¬ n_eq (σ.2.1 1) (σ.2.1 2) (σ.2.1 3) s (σ.2.1 0) n2 n3)) := by
  have A1 : ∀ j, 0 ≤ σ.2.1 1 j ∧ σ.2.1 1 j ≤ 255 := fun j => hT.2 1 j
  have A2 : ∀ j, 0 ≤ σ.2.1 2 j ∧ σ.2.1 2 j ≤ 30000 := fun j => hT.2 2 j
  have A3 : ∀ j, 0 ≤ σ.2.1 3 j ∧ σ.2.1 3 j ≤ 60 := fun j => hT.2 3 j
  have A6 : ∀ j, (-1) ≤ σ.2.1 6 j ∧ σ.2.1 6 j ≤ 999 := fun j => hT.2 6 j
  have v3 : 0 ≤ σ.1 3 ∧ σ.1 3 ≤ 1000 := hT.1 3
  intro P8 h8
  obtain ⟨e, he0, he1, he2⟩ := oc_ex p3
  have NTB : n_tb (σ.1 3) (σ.2.1 1) (σ.2.1 2) (σ.2.1 3) (σ.2.1 6) := p4
  have NTB_0 := NTB
  have l_8 : ∀ (m_8 : Nat) (u4_8 : Int), (e - u4_8) % 4096 < (m_8 : Int) → (0 ≤ u4_8) → (u4_8 < 4096) → (∀ s : Int, 0 ≤ s → s < (σ.1 3) → n_eq (σ.2.1 1) (σ.2.1 2) (σ.2.1 3) s (σ.2.1 0) n2 n3 → n_pt (σ.2.1 6) u4_8 s) → P8 n2 n3 u4_8 := by
    intro m_8
    induction m_8 with
    | zero =>
      intro u4_8 hm i8_1 i8_2 i8_3
      exfalso; (first | omega | (simp only [st_s] <;> omega) | assumption | omega | fail)
    | succ m_8 ih_8 =>
      intro u4_8 hm_8 i8_1 i8_2 i8_3
      refine h8 n2 n3 u4_8 ?_
      refine ⟨(show 0 ≤ u4_8 ∧ u4_8 < 4096 from by (first | omega | (simp only [st_s] <;> omega) | assumption | omega | fail)), ?_⟩
      intro x5 r_x5 e_x5
      have b_x5 : (-1) ≤ x5 ∧ x5 ≤ 999 := by rw [e_x5]; exact hT.2 6 _
      refine ⟨fun c6 => ?_, fun c6 => ?_⟩
      ·
        exact ⟨(show -1 ≤ (-1) ∧ (-1) ≤ 999 from by (first | omega | (simp only [st_s] <;> omega) | assumption | omega | fail)), (show (-1) = -1 ∨ ∃ e : Int, (0 ≤ e ∧ e < 4096) ∧ (-1) = σ.2.1 6 e from by (first | exact Or.inl rfl | exact Or.inr ⟨_, by omega, e_x7⟩ | fail)), (show (-1) = -1 → ∀ s : Int, 0 ≤ s → s < (σ.1 3) → ¬ n_eq (σ.2.1 1) (σ.2.1 2) (σ.2.1 3) s (σ.2.1 0) n2 n3 from by (first | (intro z; exfalso; omega) | (intro _ s a b h; exact n_pt_0 (i8_3 s a b h) (by omega) a (by rw [← e_x5]; assumption)) | fail))⟩
      ·
        intro x7 r_x7 e_x7
        have b_x7 : (-1) ≤ x7 ∧ x7 ≤ 999 := by rw [e_x7]; exact hT.2 6 _
        refine ⟨(show 0 ≤ x7 ∧ x7 < 1001 from by (first | omega | (simp only [st_s] <;> omega) | assumption | omega | fail)), ?_⟩
        intro x9 r_x9 e_x9
        have b_x9 : 0 ≤ x9 ∧ x9 ≤ 30000 := by rw [e_x9]; exact hT.2 2 _
        intro x10 r_x10 e_x10
        have b_x10 : 0 ≤ x10 ∧ x10 ≤ 60 := by rw [e_x10]; exact hT.2 3 _
        have hne : u4_8 ≠ e := fun z => by rw [z] at e_x5; omega
        refine ⟨_, K3_X13_isName_q1 hT (show 0 ≤ x9 from by (first | omega | (simp only [st_s] <;> omega) | assumption | omega | fail)) (show x9 + x10 ≤ 30100 from by (first | omega | (simp only [st_s] <;> omega) | assumption | omega | fail)) (show 0 ≤ n2 from by (first | omega | (simp only [st_s] <;> omega) | assumption | omega | fail)) (show n2 + n3 ≤ 60000 from by (first | omega | (simp only [st_s] <;> omega) | assumption | omega | fail)), ?_⟩
        intro x12 r_x12 hq
        obtain ⟨q11_1, q11_2, q11_3⟩ := hq
        replace q11_1 : 0 ≤ x12 ∧ x12 ≤ 1 := q11_1
        replace q11_2 : x12 = 1 → x10 = n3 ∧ ∀ k : Int, 0 ≤ k → k < n3 → σ.2.1 1 (x9 + k) = σ.2.1 0 (n2 + k) := q11_2
        replace q11_3 : x12 = 0 → ¬ (x10 = n3 ∧ ∀ k : Int, 0 ≤ k → k < n3 → σ.2.1 1 (x9 + k) = σ.2.1 0 (n2 + k)) := q11_3
        refine ⟨fun c14 => ?_, fun c14 => ?_⟩
        ·
          exact ih_8 _ (show ((e - ((u4_8 + 1) % 4096)) % 4096 : Int) < ((m_8 : Nat) : Int) from by ((first | omega | (simp only [st_s] <;> omega) | assumption | omega | fail))) (show 0 ≤ ((u4_8 + 1) % 4096) from by (first | omega | (simp only [st_s] <;> omega) | assumption | omega | fail)) (show ((u4_8 + 1) % 4096) < 4096 from by (first | omega | assumption | fail)) (show ∀ s : Int, 0 ≤ s → s < (σ.1 3) → n_eq (σ.2.1 1) (σ.2.1 2) (σ.2.1 3) s (σ.2.1 0) n2 n3 → n_pt (σ.2.1 6) ((u4_8 + 1) % 4096) s from by (first | (intro s a b h; rw [q1_2]; have w := p4 s a b; rw [h.1, n_sp_e (g := σ.2.1 0) (b := n2) h.2] at w; exact w) | (intro s a b h; refine n_pt_n (i8_3 s a b h) (by omega) (fun z => q11_3 (by assumption) ?_); rw [e_x9, e_x10, e_x7, z]; exact h) | fail))
        ·
          exact ⟨(show -1 ≤ x7 ∧ x7 ≤ 999 from by (first | omega | (simp only [st_s] <;> omega) | assumption | omega | fail)), (show x7 = -1 ∨ ∃ e : Int, (0 ≤ e ∧ e < 4096) ∧ x7 = σ.2.1 6 e from by (first | exact Or.inl rfl | exact Or.inr ⟨_, by omega, e_x7⟩ | fail)), (show x7 = -1 → ∀ s : Int, 0 ≤ s → s < (σ.1 3) → ¬ n_eq (σ.2.1 1) (σ.2.1 2) (σ.2.1 3) s (σ.2.1 0) n2 n3 from by (first | (intro z; exfalso; omega) | (intro _ s a b h; exact n_pt_0 (i8_3 s a b h) (by omega) a (by rw [← e_x5]; assumption)) | fail))⟩
  refine ⟨_, K3_X13_spot_q1 hT (show 0 ≤ n2 from by (first | omega | (simp only [st_s] <;> omega) | assumption | omega | fail)) (show n2 + n3 ≤ 60000 from by (first | omega | (simp only [st_s] <;> omega) | assumption | omega | fail)), ?_⟩
  intro x2 r_x2 hq
  obtain ⟨q1_1, q1_2⟩ := hq
  replace q1_1 : 0 ≤ x2 ∧ x2 < 4096 := q1_1
  replace q1_2 : x2 = n_sp (σ.2.1 0) n2 n3 := q1_2
  exact l_8 (((e - x2) % 4096 : Int).toNat + 1) _ (show ((e - x2) % 4096 : Int) < ((((e - x2) % 4096 : Int).toNat + 1 : Nat) : Int) from by ((first | omega | (simp only [st_s] <;> omega) | assumption | omega | fail))) (show 0 ≤ x2 from by (first | omega | (simp only [st_s] <;> omega) | assumption | omega | fail)) (show x2 < 4096 from by (first | omega | assumption | fail)) (show ∀ s : Int, 0 ≤ s → s < (σ.1 3) → n_eq (σ.2.1 1) (σ.2.1 2) (σ.2.1 3) s (σ.2.1 0) n2 n3 → n_pt (σ.2.1 6) x2 s from by (first | (intro s a b h; rw [q1_2]; have w := p4 s a b; rw [h.1, n_sp_e (g := σ.2.1 0) (b := n2) h.2] at w; exact w) | (intro s a b h; refine n_pt_n (i8_3 s a b h) (by omega) (fun z => q11_3 (by assumption) ?_); rw [e_x9, e_x10, e_x7, z]; exact h) | fail))
set_option maxHeartbeats 1000000 in
theorem K3_X13_symbolHere {σ : S0} (hT : m_T σ) (p1 : (σ.1 17) + (σ.1 18) ≤ 60000) (p2 : oc (σ.2.1 6) < 4096) (p3 : n_tb (σ.1 3) (σ.2.1 1) (σ.2.1 2) (σ.2.1 3) (σ.2.1 6)) : W_X13_symbolHere σ (fun (x : Int) => (-1 ≤ x ∧ x ≤ 999) ∧ (x = -1 ∨ ∃ e : Int, (0 ≤ e ∧ e < 4096) ∧ x = σ.2.1 6 e) ∧ (x = -1 → ∀ s : Int, 0 ≤ s → s < (σ.1 3) → ¬ n_eq (σ.2.1 1) (σ.2.1 2) (σ.2.1 3) s (σ.2.1 0) (σ.1 17) (σ.1 18))) := by
  have A1 : ∀ j, 0 ≤ σ.2.1 1 j ∧ σ.2.1 1 j ≤ 255 := fun j => hT.2 1 j
  have A2 : ∀ j, 0 ≤ σ.2.1 2 j ∧ σ.2.1 2 j ≤ 30000 := fun j => hT.2 2 j
  have A3 : ∀ j, 0 ≤ σ.2.1 3 j ∧ σ.2.1 3 j ≤ 60 := fun j => hT.2 3 j
  have A6 : ∀ j, (-1) ≤ σ.2.1 6 j ∧ σ.2.1 6 j ≤ 999 := fun j => hT.2 6 j
  have v3 : 0 ≤ σ.1 3 ∧ σ.1 3 ≤ 1000 := hT.1 3
  have v17 : 0 ≤ σ.1 17 ∧ σ.1 17 ≤ 60000 := hT.1 17
  have v18 : 0 ≤ σ.1 18 ∧ σ.1 18 ≤ 60000 := hT.1 18
  have NTB : n_tb (σ.1 3) (σ.2.1 1) (σ.2.1 2) (σ.2.1 3) (σ.2.1 6) := p3
  have NTB_0 := NTB
  unfold W_X13_symbolHere
  refine ⟨_, K3_X13_findSymbol_q1 hT (show 0 ≤ (σ.1 17) from by (first | omega | (simp only [st_s] <;> omega) | assumption | omega | fail)) (show (σ.1 17) + (σ.1 18) ≤ 60000 from by (first | omega | (simp only [st_s] <;> omega) | assumption | omega | fail)) (show oc (σ.2.1 6) < 4096 from by (first | omega | (simp only [st_s] <;> omega) | assumption | omega | fail)) (show n_tb (σ.1 3) (σ.2.1 1) (σ.2.1 2) (σ.2.1 3) (σ.2.1 6) from NTB), ?_⟩
  intro x2 r_x2 hq
  obtain ⟨q1_1, q1_2, q1_3⟩ := hq
  replace q1_1 : -1 ≤ x2 ∧ x2 ≤ 999 := q1_1
  replace q1_2 : x2 = -1 ∨ ∃ e : Int, (0 ≤ e ∧ e < 4096) ∧ x2 = σ.2.1 6 e := q1_2
  replace q1_3 : x2 = -1 → ∀ s : Int, 0 ≤ s → s < (σ.1 3) → ¬ n_eq (σ.2.1 1) (σ.2.1 2) (σ.2.1 3) s (σ.2.1 0) (σ.1 17) (σ.1 18) := q1_3
  exact ⟨(show -1 ≤ x2 ∧ x2 ≤ 999 from by (first | omega | (simp only [st_s] <;> omega) | assumption | omega | fail)), (show x2 = -1 ∨ ∃ e : Int, (0 ≤ e ∧ e < 4096) ∧ x2 = σ.2.1 6 e from by exact q1_2), (show x2 = -1 → ∀ s : Int, 0 ≤ s → s < (σ.1 3) → ¬ n_eq (σ.2.1 1) (σ.2.1 2) (σ.2.1 3) s (σ.2.1 0) (σ.1 17) (σ.1 18) from by exact q1_3)⟩
