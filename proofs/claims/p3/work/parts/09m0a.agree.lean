-- pure: what stands below the counts stays
def ag (T : List (Nat × Nat × Int)) (V : List Nat) (σ τ : S0) : Prop := (∀ i ∈ V, σ.1 i ≤ τ.1 i) ∧ ∀ p ∈ T, ∀ j : Int, j < σ.1 p.2.1 + p.2.2 → τ.2.1 p.1 j = σ.2.1 p.1 j
theorem ag_0 {T : List (Nat × Nat × Int)} {V : List Nat} (σ : S0) : ag T V σ σ := ⟨fun _ _ => Int.le_refl _, fun _ _ _ _ => rfl⟩
theorem ag_t {T : List (Nat × Nat × Int)} {V : List Nat} {σ τ υ : S0} (h : ag T V σ τ) (h2 : ag T V τ υ) (d : T.all (fun p => V.contains p.2.1) = true) : ag T V σ υ := by
  refine ⟨fun i hi => Int.le_trans (h.1 i hi) (h2.1 i hi), fun p hp j hj => ?_⟩
  have hd := List.all_eq_true.mp d p hp
  have hv : p.2.1 ∈ V := by simpa using hd
  have := h.1 _ hv
  rw [h2.2 p hp j (by omega), h.2 p hp j hj]
theorem ag_v {T : List (Nat × Nat × Int)} {V : List Nat} {σ τ : S0} {i : Nat} {x : Int} (h : ag T V σ τ) (d : V.contains i = false ∨ σ.1 i ≤ x) : ag T V σ (s_v τ i x) := by
  refine ⟨fun j hj => ?_, h.2⟩
  show σ.1 j ≤ up τ.1 i x j
  unfold up
  by_cases z : j = i
  · rw [if_pos z]
    rcases d with d | d
    · rw [z] at hj
      have : V.contains i = true := by simpa using hj
      rw [this] at d; cases d
    · rw [z]; exact d
  · rw [if_neg z]; exact h.1 j hj
theorem ag_f {T : List (Nat × Nat × Int)} {V : List Nat} {σ τ : S0} {k : Nat} {f : Int → Int} (h : ag T V σ τ) (d : T.all (fun p => p.1 != k) = true) : ag T V σ (s_f τ k f) := by
  refine ⟨h.1, fun p hp j hj => ?_⟩
  have hd := List.all_eq_true.mp d p hp
  show ua τ.2.1 k f p.1 j = _
  unfold ua
  rw [if_neg (by simpa using hd)]
  exact h.2 p hp j hj
theorem ag_a {T : List (Nat × Nat × Int)} {V : List Nat} {σ τ : S0} {k : Nat} {e x : Int} (h : ag T V σ τ) (d : T.all (fun p => p.1 != k) = true) : ag T V σ (s_a τ k e x) := ag_f h d
theorem ag_b {T : List (Nat × Nat × Int)} {V : List Nat} {σ τ : S0} {k : Nat} {e : Int} {x : Int64} (h : ag T V σ τ) : ag T V σ (s_b τ k e x) := h
theorem ag_w {T : List (Nat × Nat × Int)} {V : List Nat} {σ τ : S0} {k : Nat} (b : Nat) (c : Int) {e x : Int} (h : ag T V σ τ) (d : T.all (fun p => p.1 != k || (p.2.1 == b && p.2.2 == c)) = true) (he : σ.1 b + c ≤ e) : ag T V σ (s_a τ k e x) := by
  refine ⟨h.1, fun p hp j hj => ?_⟩
  have hd := List.all_eq_true.mp d p hp
  show ua τ.2.1 k (st (τ.2.1 k) e x) p.1 j = _
  unfold ua
  by_cases z : p.1 = k
  · rw [if_pos z]
    have hz : p.2.1 = b ∧ p.2.2 = c := by
      rcases Bool.or_eq_true _ _ ▸ hd with q | q
      · rw [z] at q; simp at q
      · simpa using q
    rw [hz.1, hz.2] at hj
    rw [st_n _ _ (show j ≠ e from by omega), ← z]
    exact h.2 p hp j (by rw [hz.1, hz.2]; exact hj)
  · rw [if_neg z]; exact h.2 p hp j hj
theorem ag_r {T : List (Nat × Nat × Int)} {V : List Nat} {σ τ υ : S0} {wv wa wb : List Nat} (h : ag T V σ τ) (hf : f_r wv wa wb τ υ) (d : V.all (fun i => !wv.contains i) = true) (d2 : T.all (fun p => !wa.contains p.1) = true) : ag T V σ υ := by
  refine ⟨fun i hi => ?_, fun p hp j hj => ?_⟩
  · have hd := List.all_eq_true.mp d i hi
    rw [hf.1 i (by simpa using hd)]; exact h.1 i hi
  · have hd := List.all_eq_true.mp d2 p hp
    rw [hf.2.1 p.1 (by simpa using hd)]; exact h.2 p hp j hj
abbrev m_gT : List (Nat × Nat × Int) := [(13, 5, 0), (14, 5, 0), (15, 5, 0), (18, 5, 0), (19, 5, 0), (21, 5, 0), (22, 5, 0), (25, 5, 0), (26, 5, 0), (4, 5, 0), (5, 5, 0), (16, 6, 0), (17, 6, 0), (20, 7, 0), (23, 8, 0), (24, 8, 0), (27, 9, 0), (29, 9, 0), (8, 3, 0), (2, 3, 0), (3, 3, 0)]
abbrev m_gV : List Nat := [3, 5, 6, 7, 8, 9]
abbrev m_ag (σ τ : S0) : Prop := ag m_gT m_gV σ τ
abbrev c_gT : List (Nat × Nat × Int) := [(13, 7, 0), (14, 7, 1), (12, 7, 0), (15, 6, 0), (16, 6, 0), (8, 5, 0), (7, 5, 0), (3, 3, 1), (4, 3, 0), (27, 7, 0), (28, 7, 0), (30, 7, 0), (31, 7, 0), (29, 13, 0), (32, 14, 0), (33, 7, 0), (34, 7, 0), (35, 15, 0), (36, 15, 1)]
abbrev c_gV : List Nat := [3, 5, 6, 7, 13, 14, 15, 16]
abbrev c_ag (σ τ : S0) : Prop := ag c_gT c_gV σ τ
def j_eq (n : Int) (f g : Int → Int) : Prop := ∀ j : Int, j < n → g j = f j
theorem j_eq0 (n : Int) (f : Int → Int) : j_eq n f f := fun _ _ => rfl
theorem j_eqt {n : Int} {f g h : Int → Int} (a : j_eq n f g) (b : j_eq n g h) : j_eq n f h := fun j hj => (b j hj).trans (a j hj)
theorem j_eqs {n : Int} {f g : Int → Int} {e x : Int} (a : j_eq n f g) (he : n ≤ e) : j_eq n f (st g e x) := fun j hj => (st_n g x (show j ≠ e from by omega)).trans (a j hj)
theorem j_eqw {n m : Int} {f g : Int → Int} (a : j_eq m f g) (h : n ≤ m) : j_eq n f g := fun j hj => a j (by omega)
def j_l2 (f : Int → Int) (n : Int) : Prop := ∀ e : Int, 0 ≤ e → e < 4096 → f e < n
theorem j_l2s {f : Int → Int} {n m e x : Int} (h : j_l2 f n) (hn : n ≤ m) (hx : x < m) : j_l2 (st f e x) m := fun i h0 h1 => by
  by_cases z : i = e
  · rw [z, st_s]; exact hx
  · rw [st_n _ _ z]; have := h i h0 h1; omega
theorem j_eqp {n : Int} {f g : Int → Int} (a : j_eq n f g) : j_eq (n + 1) f (st g n (f n)) := fun j hj => by
  by_cases z : j = n
  · rw [z, st_s]
  · rw [st_n _ _ z]; exact a j (by omega)
/-- the first n are below N, no two the same -/
def j_in (n N : Int) (f : Int → Int) : Prop := (∀ i : Int, 0 ≤ i → i < n → 0 ≤ f i ∧ f i < N) ∧ ∀ i j : Int, 0 ≤ i → i < j → j < n → f i ≠ f j
theorem j_in0 (N : Int) (f : Int → Int) : j_in 0 N f := ⟨fun i h0 h1 => by omega, fun i j h0 h1 h2 => by omega⟩
theorem j_ins {n N x : Int} {f : Int → Int} (h : j_in n N f) (h0 : 0 ≤ x) (h1 : x < N) (hx : ∀ i : Int, 0 ≤ i → i < n → f i ≠ x) : j_in (n + 1) N (st f n x) := by
  refine ⟨fun i i0 i1 => ?_, fun i j i0 i1 i2 => ?_⟩
  · by_cases z : i = n
    · rw [z, st_s]; exact ⟨h0, h1⟩
    · rw [st_n _ _ z]; exact h.1 i i0 (by omega)
  · by_cases z : j = n
    · rw [z, st_s, st_n _ _ (show i ≠ n from by omega)]; exact hx i i0 (by omega)
    · rw [st_n _ _ z, st_n _ _ (show i ≠ n from by omega)]; exact h.2 i j i0 i1 (by omega)
theorem j_in_b {N : Int} (h0 : 0 ≤ N) : ∀ (n : Nat) (f : Int → Int), j_in (n : Int) N f → (n : Int) ≤ N := by
  obtain ⟨M, rfl⟩ := Int.eq_ofNat_of_zero_le h0
  induction M with
  | zero =>
    intro n f h
    by_cases z : n = 0
    · omega
    · have := h.1 0 (by omega) (by omega); omega
  | succ M ih =>
    intro n f h
    by_cases z : n = 0
    · omega
    · obtain ⟨m, rfl⟩ : ∃ m, n = m + 1 := ⟨n - 1, by omega⟩
      -- swap the value M away: g i = if f i = M then f m else f i
      have hg : j_in (m : Int) (M : Int) (fun i => if f i = (M : Int) then f m else f i) := by
        refine ⟨fun i i0 i1 => ?_, fun i j i0 i1 i2 => ?_⟩
        · have a := h.1 i i0 (by omega)
          have b := h.1 m (by omega) (by omega)
          have c := h.2 i m i0 i1 (by omega)
          show 0 ≤ (if f i = (M : Int) then f m else f i) ∧ (if f i = (M : Int) then f m else f i) < (M : Int)
          by_cases q : f i = (M : Int)
          · rw [if_pos q]; omega
          · rw [if_neg q]; omega
        · have c := h.2 i m i0 (by omega) (by omega)
          have d := h.2 j m (by omega) i2 (by omega)
          have e := h.2 i j i0 i1 (by omega)
          show (if f i = (M : Int) then f m else f i) ≠ (if f j = (M : Int) then f m else f j)
          by_cases q : f i = (M : Int)
          · rw [if_pos q]
            by_cases r : f j = (M : Int)
            · omega
            · rw [if_neg r]; omega
          · rw [if_neg q]
            by_cases r : f j = (M : Int)
            · rw [if_pos r]; omega
            · rw [if_neg r]; omega
      have := ih (by omega) m _ hg
      omega
theorem j_in_n {n N : Int} {f : Int → Int} (h : j_in n N f) (h0 : 0 ≤ N) (hn : 0 ≤ n) : n ≤ N := by
  obtain ⟨k, rfl⟩ := Int.eq_ofNat_of_zero_le hn
  exact j_in_b h0 k f h
theorem j_of_le {a b : Int} (ra : rg a) (rb : rg b) : (j_of a ≤ j_of b) ↔ a ≤ b := by
  rw [Int64.le_iff_toInt_le]
  have ha : (j_of a).toInt = a := by
    have := ra; unfold rg at this
    exact Int64.toInt_ofInt_of_le (by omega) (by omega)
  have hb : (j_of b).toInt = b := by
    have := rb; unfold rg at this
    exact Int64.toInt_ofInt_of_le (by omega) (by omega)
  rw [ha, hb]
theorem in_i {x a n b : Int} (h : x = 1 ↔ (j_of a ≤ j_of n ∧ j_of n ≤ j_of b)) (ra : rg a) (rn : rg n) (rb : rg b) : x = 1 ↔ (a ≤ n ∧ n ≤ b) := by
  rw [j_of_le ra rn, j_of_le rn rb] at h; exact h
/-- texts, hypotheses, pairs, steps of statements lie within what there is -/
def J_m1 (n : Int) (ta ts ha hs pa ps sa ss : Int → Int) (sv : Int → Int) : Prop := ∀ i : Int, 0 ≤ i → i < n → ta i + ts i ≤ 30000 ∧ ha i + hs i ≤ 60 * (i + 1) ∧ pa i + ps i ≤ 20000 ∧ sa i + ss i ≤ 20000 ∧ 1 ≤ ts i ∧ ca sv (sa i + ss i) ≤ ca sv (sa i) + 300
theorem ca_eq {f g : Int → Int} {n m : Int} (a : j_eq m f g) (h : n ≤ m) : ca g n = ca f n := ca_x (fun e _ h2 => a e (by omega))
theorem ca_t2 (f : Int → Int) {e : Int} (n x : Int) (h0 : 0 ≤ e) (hn : 0 ≤ n) : ¬ f e = 0 → ¬ x = 0 → ca (st f e x) n = ca f n := fun hf hx => by
  rw [ca_t f x h0 hn, if_neg hx, if_neg hf]
  split <;> omega
theorem ca_m (f : Int → Int) {n m : Int} (h0 : 0 ≤ n) (h : n ≤ m) : ca f n ≤ ca f m := by
  obtain ⟨d, rfl⟩ : ∃ d : Nat, m = n + (d : Int) := ⟨(m - n).toNat, by omega⟩
  induction d with
  | zero => simp
  | succ d ih =>
    have := ca_s f (n := n + (d : Int)) (by omega)
    have h1 := ih (by omega)
    rw [show n + ((d + 1 : Nat) : Int) = n + (d : Int) + 1 from by omega, this]
    split <;> omega
