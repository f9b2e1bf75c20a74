-- pure: the model, plain methods
set_option maxHeartbeats 1000000 in
theorem K_X13_isIn {n0 : Int64} {n2 : Int64} {n4 : Int64} {σ : S0} (hT : m_T σ) : W_X13_isIn n0 n2 n4 σ (fun (x : Int) => (0 ≤ x ∧ x ≤ 1) ∧ (x = 1 ↔ (n2 ≤ n0 ∧ n0 ≤ n4))) := by
  unfold W_X13_isIn
  refine ⟨fun c1 => ?_, fun c1 => ?_⟩
  ·
    exact ⟨(show 0 ≤ 0 ∧ 0 ≤ 1 from by omega), (show 0 = 1 ↔ (n2 ≤ n0 ∧ n0 ≤ n4) from by (constructor <;> intro hh <;> first | omega | (exact ⟨by assumption, by assumption⟩) | (exfalso; exact Int64.not_lt.mpr hh.1 (by assumption)) | (exfalso; exact Int64.not_lt.mpr hh.2 (by assumption))))⟩
  ·
    refine ⟨fun c2 => ?_, fun c2 => ?_⟩
    ·
      exact ⟨(show 0 ≤ 0 ∧ 0 ≤ 1 from by omega), (show 0 = 1 ↔ (n2 ≤ n0 ∧ n0 ≤ n4) from by (constructor <;> intro hh <;> first | omega | (exact ⟨by assumption, by assumption⟩) | (exfalso; exact Int64.not_lt.mpr hh.1 (by assumption)) | (exfalso; exact Int64.not_lt.mpr hh.2 (by assumption))))⟩
    ·
      exact ⟨(show 0 ≤ 1 ∧ 1 ≤ 1 from by omega), (show 1 = 1 ↔ (n2 ≤ n0 ∧ n0 ≤ n4) from by (constructor <;> intro hh <;> first | omega | (exact ⟨by assumption, by assumption⟩) | (exfalso; exact Int64.not_lt.mpr hh.1 (by assumption)) | (exfalso; exact Int64.not_lt.mpr hh.2 (by assumption))))⟩
set_option maxHeartbeats 1000000 in
theorem K_X13_isBlank {n0 : Int} {σ : S0} (hT : m_T σ) : W_X13_isBlank n0 σ (fun (x : Int) => (0 ≤ x ∧ x ≤ 1)) := by
  unfold W_X13_isBlank
  refine ⟨fun c1 => ?_, fun c1 => ?_⟩
  ·
    exact (show 0 ≤ 1 ∧ 1 ≤ 1 from by omega)
  ·
    refine ⟨fun c2 => ?_, fun c2 => ?_⟩
    ·
      exact (show 0 ≤ 1 ∧ 1 ≤ 1 from by omega)
    ·
      refine ⟨fun c3 => ?_, fun c3 => ?_⟩
      ·
        exact (show 0 ≤ 1 ∧ 1 ≤ 1 from by omega)
      ·
        refine ⟨fun c4 => ?_, fun c4 => ?_⟩
        ·
          exact (show 0 ≤ 1 ∧ 1 ≤ 1 from by omega)
        ·
          refine ⟨fun c5 => ?_, fun c5 => ?_⟩
          ·
            exact (show 0 ≤ 0 ∧ 0 ≤ 1 from by omega)
          ·
            exact (show 0 ≤ 1 ∧ 1 ≤ 1 from by omega)
set_option maxHeartbeats 1000000 in
theorem K_X13_isSign {n0 : Int} {σ : S0} (hT : m_T σ) : W_X13_isSign n0 σ (fun (x : Int) => (0 ≤ x ∧ x ≤ 1)) := by
  unfold W_X13_isSign
  refine ⟨fun c1 => ?_, fun c1 => ?_⟩
  ·
    exact (show 0 ≤ 0 ∧ 0 ≤ 1 from by omega)
  ·
    refine ⟨fun c2 => ?_, fun c2 => ?_⟩
    ·
      exact (show 0 ≤ 0 ∧ 0 ≤ 1 from by omega)
    ·
      exact (show 0 ≤ 1 ∧ 1 ≤ 1 from by omega)
set_option maxHeartbeats 1000000 in
theorem K_X13_clearTables {σ : S0} (hT : m_T σ) : W_X13_clearTables σ (fun (τ : S0) => (m_T τ)) := by
  intro P2 h2
  have l_2 : ∀ (m_2 : Nat) (u1_2 : Int) (τ_2 : S0), 4097 - u1_2 < (m_2 : Int) → (m_T τ_2) → (0 ≤ u1_2) → (u1_2 ≤ 4096) → P2 u1_2 τ_2 := by
    intro m_2
    induction m_2 with
    | zero =>
      intro u1_2 τ_2 hm hT i2_1 i2_2
      exfalso; omega
    | succ m_2 ih_2 =>
      intro u1_2 τ_2 hm_2 hT i2_1 i2_2
      refine h2 _ _ ?_
      refine ⟨fun c1 => ?_, fun c1 => ?_⟩
      ·
        exact hT
      ·
        refine ⟨(show 0 ≤ u1_2 ∧ u1_2 < 4096 from by omega), ?_⟩
        replace hT := mT_a (k := 6) (j := u1_2) hT (show (-1 : Int) ≤ (-1) ∧ (-1) ≤ 999 from by omega)
        replace hT := mT_a (k := 7) (j := u1_2) hT (show (-1 : Int) ≤ (-1) ∧ (-1) ≤ 1499 from by omega)
        refine ⟨(⟨by omega, by omega⟩ : rg (u1_2 + 1)), ?_⟩
        exact ih_2 _ _ (show (4097 - (u1_2 + 1) : Int) < ((m_2 : Nat) : Int) from by (omega)) hT (show 0 ≤ (u1_2 + 1) from by omega) (show (u1_2 + 1) ≤ 4096 from by omega)
  exact l_2 ((4097 - 0 : Int).toNat + 1) _ _ (show (4097 - 0 : Int) < (((4097 - 0 : Int).toNat + 1 : Nat) : Int) from by (omega)) hT (show 0 ≤ 0 from by omega) (show 0 ≤ 4096 from by omega)
set_option maxHeartbeats 1000000 in
theorem K_X13_spot_q2 {n1 : Int} {n2 : Int} {σ : S0} (hT : m_T σ) (p1 : 0 ≤ n1) (p2 : n1 + n2 ≤ 30100) : W_X13_spot_q2 n1 n2 σ (fun (x : Int) => (0 ≤ x ∧ x < 4096)) := by
  intro P5 h5
  have l_5 : ∀ (m_5 : Nat) (u3_5 : Int) (u4_5 : Int), 60001 - u4_5 < (m_5 : Int) → (0 ≤ u4_5) → (u4_5 ≤ 60000) → P5 n1 n2 u3_5 u4_5 := by
    intro m_5
    induction m_5 with
    | zero =>
      intro u3_5 u4_5 hm i5_1 i5_2
      exfalso; omega
    | succ m_5 ih_5 =>
      intro u3_5 u4_5 hm_5 i5_1 i5_2
      refine h5 _ _ _ _ ?_
      refine ⟨fun c1 => ?_, fun c1 => ?_⟩
      ·
        intro x2 r_x2 e_x2
        intro x3 r_x3 e_x3
        exact (show 0 ≤ (x3 % 4096) ∧ (x3 % 4096) < 4096 from by omega)
      ·
        refine ⟨(show 0 ≤ (n1 + u4_5) ∧ (n1 + u4_5) < 30100 from by omega), ?_⟩
        intro x5 r_x5 e_x5
        have b_x5 : 0 ≤ x5 ∧ x5 ≤ 255 := by rw [e_x5]; exact hT.2 1 _
        intro x6 r_x6 e_x6
        refine ⟨(⟨by omega, by omega⟩ : rg (u4_5 + 1)), ?_⟩
        exact ih_5 _ _ (show (60001 - (u4_5 + 1) : Int) < ((m_5 : Nat) : Int) from by (omega)) (show 0 ≤ (u4_5 + 1) from by omega) (show (u4_5 + 1) ≤ 60000 from by omega)
  exact l_5 ((60001 - 0 : Int).toNat + 1) _ _ (show (60001 - 0 : Int) < (((60001 - 0 : Int).toNat + 1 : Nat) : Int) from by (omega)) (show 0 ≤ 0 from by omega) (show 0 ≤ 60000 from by omega)
set_option maxHeartbeats 1000000 in
theorem K_X13_keepSymbol {n1 : Int} {σ : S0} (hT : m_T σ) (p1 : 0 ≤ n1) (p2 : n1 < 1000) (p3 : oc (σ.2.1 6) < 4096) : W_X13_keepSymbol n1 σ (fun (τ : S0) => (m_T τ) ∧ (oc (τ.2.1 6) ≤ oc (σ.2.1 6) + 1) ∧ (∃ e : Int, τ.2.1 6 = st (σ.2.1 6) e n1)) := by
  intro P20 h20
  obtain ⟨e, he0, he1, he2⟩ := oc_ex p3
  have l_20 : ∀ (m_20 : Nat) (u2_20 : Int) (τ_20 : S0), (e - u2_20) % 4096 < (m_20 : Int) → (m_T τ_20) → (0 ≤ u2_20) → (u2_20 < 4096) → (τ_20.2.1 6 = σ.2.1 6) → P20 n1 u2_20 τ_20 := by
    intro m_20
    induction m_20 with
    | zero =>
      intro u2_20 τ_20 hm hT i20_1 i20_2 i20_3
      exfalso; omega
    | succ m_20 ih_20 =>
      intro u2_20 τ_20 hm_20 hT i20_1 i20_2 i20_3
      rw [← i20_3] at he2
      refine h20 _ _ _ ?_
      refine ⟨(show 0 ≤ u2_20 ∧ u2_20 < 4096 from by omega), ?_⟩
      intro x8 r_x8 e_x8
      have b_x8 : (-1) ≤ x8 ∧ x8 ≤ 999 := by rw [e_x8]; exact hT.2 6 _
      refine ⟨fun c9 => ?_, fun c9 => ?_⟩
      ·
        have hne : u2_20 = e → x8 = -1 := fun z => by rw [e_x8, z]; exact he2
        replace hT := mT_a (k := 6) (j := u2_20) hT (show (-1 : Int) ≤ n1 ∧ n1 ≤ 999 from by omega)
        have oo := oc_st (σ.2.1 6) u2_20 n1
        exact ⟨hT, (show oc ((st (τ_20.2.1 6) u2_20 n1)) ≤ oc (σ.2.1 6) + 1 from by (rw [i20_3]; exact oo)), (show ∃ e : Int, (st (τ_20.2.1 6) u2_20 n1) = st (σ.2.1 6) e n1 from by (rw [i20_3]; exact ⟨_, rfl⟩))⟩
      ·
        have hne : u2_20 = e → x8 = -1 := fun z => by rw [e_x8, z]; exact he2
        exact ih_20 _ _ (show ((e - ((u2_20 + 1) % 4096)) % 4096 : Int) < ((m_20 : Nat) : Int) from by (omega)) hT (show 0 ≤ ((u2_20 + 1) % 4096) from by omega) (show ((u2_20 + 1) % 4096) < 4096 from by omega) (show τ_20.2.1 6 = σ.2.1 6 from by (first | rfl | exact i20_3))
  refine ⟨(show 0 ≤ n1 ∧ n1 < 1001 from by omega), ?_⟩
  intro x2 r_x2 e_x2
  have b_x2 : 0 ≤ x2 ∧ x2 ≤ 30000 := by rw [e_x2]; exact hT.2 2 _
  intro x3 r_x3 e_x3
  have b_x3 : 0 ≤ x3 ∧ x3 ≤ 60 := by rw [e_x3]; exact hT.2 3 _
  refine ⟨_, K_X13_spot_q2 hT (show 0 ≤ x2 from by omega) (show x2 + x3 ≤ 30100 from by omega), ?_⟩
  intro x5 r_x5 hq
  have q4_1 := hq
  replace q4_1 : 0 ≤ x5 ∧ x5 < 4096 := q4_1
  exact l_20 (((e - x5) % 4096 : Int).toNat + 1) _ _ (show ((e - x5) % 4096 : Int) < ((((e - x5) % 4096 : Int).toNat + 1 : Nat) : Int) from by (omega)) hT (show 0 ≤ x5 from by omega) (show x5 < 4096 from by omega) (show σ.2.1 6 = σ.2.1 6 from by (first | rfl | exact i20_3))
set_option maxHeartbeats 1000000 in
theorem K_X13_keepLabel {n1 : Int} {σ : S0} (hT : m_T σ) (p1 : 0 ≤ n1) (p2 : n1 < 1500) (p3 : oc (σ.2.1 7) < 4096) : W_X13_keepLabel n1 σ (fun (τ : S0) => (m_T τ) ∧ (oc (τ.2.1 7) ≤ oc (σ.2.1 7) + 1) ∧ (∃ e : Int, τ.2.1 7 = st (σ.2.1 7) e n1)) := by
  intro P20 h20
  obtain ⟨e, he0, he1, he2⟩ := oc_ex p3
  have l_20 : ∀ (m_20 : Nat) (u2_20 : Int) (τ_20 : S0), (e - u2_20) % 4096 < (m_20 : Int) → (m_T τ_20) → (0 ≤ u2_20) → (u2_20 < 4096) → (τ_20.2.1 7 = σ.2.1 7) → P20 n1 u2_20 τ_20 := by
    intro m_20
    induction m_20 with
    | zero =>
      intro u2_20 τ_20 hm hT i20_1 i20_2 i20_3
      exfalso; omega
    | succ m_20 ih_20 =>
      intro u2_20 τ_20 hm_20 hT i20_1 i20_2 i20_3
      rw [← i20_3] at he2
      refine h20 _ _ _ ?_
      refine ⟨(show 0 ≤ u2_20 ∧ u2_20 < 4096 from by omega), ?_⟩
      intro x8 r_x8 e_x8
      have b_x8 : (-1) ≤ x8 ∧ x8 ≤ 1499 := by rw [e_x8]; exact hT.2 7 _
      refine ⟨fun c9 => ?_, fun c9 => ?_⟩
      ·
        have hne : u2_20 = e → x8 = -1 := fun z => by rw [e_x8, z]; exact he2
        replace hT := mT_a (k := 7) (j := u2_20) hT (show (-1 : Int) ≤ n1 ∧ n1 ≤ 1499 from by omega)
        have oo := oc_st (σ.2.1 7) u2_20 n1
        exact ⟨hT, (show oc ((st (τ_20.2.1 7) u2_20 n1)) ≤ oc (σ.2.1 7) + 1 from by (rw [i20_3]; exact oo)), (show ∃ e : Int, (st (τ_20.2.1 7) u2_20 n1) = st (σ.2.1 7) e n1 from by (rw [i20_3]; exact ⟨_, rfl⟩))⟩
      ·
        have hne : u2_20 = e → x8 = -1 := fun z => by rw [e_x8, z]; exact he2
        exact ih_20 _ _ (show ((e - ((u2_20 + 1) % 4096)) % 4096 : Int) < ((m_20 : Nat) : Int) from by (omega)) hT (show 0 ≤ ((u2_20 + 1) % 4096) from by omega) (show ((u2_20 + 1) % 4096) < 4096 from by omega) (show τ_20.2.1 7 = σ.2.1 7 from by (first | rfl | exact i20_3))
  refine ⟨(show 0 ≤ n1 ∧ n1 < 1501 from by omega), ?_⟩
  intro x2 r_x2 e_x2
  have b_x2 : 0 ≤ x2 ∧ x2 ≤ 30000 := by rw [e_x2]; exact hT.2 4 _
  intro x3 r_x3 e_x3
  have b_x3 : 0 ≤ x3 ∧ x3 ≤ 60 := by rw [e_x3]; exact hT.2 5 _
  refine ⟨_, K_X13_spot_q2 hT (show 0 ≤ x2 from by omega) (show x2 + x3 ≤ 30100 from by omega), ?_⟩
  intro x5 r_x5 hq
  have q4_1 := hq
  replace q4_1 : 0 ≤ x5 ∧ x5 < 4096 := q4_1
  exact l_20 (((e - x5) % 4096 : Int).toNat + 1) _ _ (show ((e - x5) % 4096 : Int) < ((((e - x5) % 4096 : Int).toNat + 1 : Nat) : Int) from by (omega)) hT (show 0 ≤ x5 from by omega) (show x5 < 4096 from by omega) (show σ.2.1 7 = σ.2.1 7 from by (first | rfl | exact i20_3))
set_option maxHeartbeats 1000000 in
theorem K_X13_keepChars {n1 : Int} {n2 : Int} {σ : S0} (hT : m_T σ) (p1 : 0 ≤ n1) (p2 : 0 ≤ n2) (p3 : n1 + n2 ≤ 60000) (p4 : (σ.1 2) + n2 ≤ 30000) : W_X13_keepChars n1 n2 σ (fun (τ : S0) => (m_T τ) ∧ ((τ.1 2) = (σ.1 2) + n2)) := by
  have v2 : 0 ≤ σ.1 2 ∧ σ.1 2 ≤ 30000 := hT.1 2
  intro P2 h2
  have l_2 : ∀ (m_2 : Nat) (u3_2 : Int) (τ_2 : S0), n2 - u3_2 + 1 < (m_2 : Int) → (m_T τ_2) → ((τ_2.1 2) = (σ.1 2)) → (0 ≤ u3_2) → (u3_2 ≤ n2) → P2 n1 n2 u3_2 τ_2 := by
    intro m_2
    induction m_2 with
    | zero =>
      intro u3_2 τ_2 hm hT i2_1 i2_2 i2_3
      have v2 : 0 ≤ τ_2.1 2 ∧ τ_2.1 2 ≤ 30000 := hT.1 2
      exfalso; omega
    | succ m_2 ih_2 =>
      intro u3_2 τ_2 hm_2 hT i2_1 i2_2 i2_3
      have v2 : 0 ≤ τ_2.1 2 ∧ τ_2.1 2 ≤ 30000 := hT.1 2
      refine h2 _ _ _ _ ?_
      refine ⟨fun c1 => ?_, fun c1 => ?_⟩
      ·
        refine ⟨(⟨by omega, by omega⟩ : rg (τ_2.1 2 + n2)), ?_⟩
        replace hT := mT_v (i := 2) hT (show 0 ≤ (τ_2.1 2 + n2) ∧ (τ_2.1 2 + n2) ≤ 30000 from by omega)
        exact ⟨hT, (show ((τ_2.1 2 + n2)) = (σ.1 2) + n2 from by omega)⟩
      ·
        refine ⟨(show 0 ≤ (n1 + u3_2) ∧ (n1 + u3_2) < 60000 from by omega), ?_⟩
        intro x4 r_x4 e_x4
        have b_x4 : 0 ≤ x4 ∧ x4 ≤ 255 := by rw [e_x4]; exact hT.2 0 _
        refine ⟨(show 0 ≤ (τ_2.1 2 + u3_2) ∧ (τ_2.1 2 + u3_2) < 30100 from by omega), ?_⟩
        replace hT := mT_a (k := 1) (j := (τ_2.1 2 + u3_2)) hT (show (0 : Int) ≤ x4 ∧ x4 ≤ 255 from by omega)
        refine ⟨(⟨by omega, by omega⟩ : rg (u3_2 + 1)), ?_⟩
        exact ih_2 _ _ (show (n2 - (u3_2 + 1) + 1 : Int) < ((m_2 : Nat) : Int) from by (omega)) hT (show (τ_2.1 2) = (σ.1 2) from by omega) (show 0 ≤ (u3_2 + 1) from by omega) (show (u3_2 + 1) ≤ n2 from by omega)
  exact l_2 ((n2 - 0 + 1 : Int).toNat + 1) _ _ (show (n2 - 0 + 1 : Int) < (((n2 - 0 + 1 : Int).toNat + 1 : Nat) : Int) from by (omega)) hT (show (σ.1 2) = (σ.1 2) from by omega) (show 0 ≤ 0 from by omega) (show 0 ≤ n2 from by omega)
set_option maxHeartbeats 1000000 in
theorem K_X13_areApart {n1 : Int} {n2 : Int} {σ : S0} (hT : m_T σ) (p1 : 0 ≤ n1) (p2 : n1 < 1000) (p3 : 0 ≤ n2) (p4 : n2 < 1000) : W_X13_areApart n1 n2 σ (fun (x : Int) => (0 ≤ x ∧ x ≤ 1)) := by
  unfold W_X13_areApart
  intro x1 r_x1 h1_x1 h2_x1
  refine ⟨(show 0 ≤ ((16 * n1) + x1) ∧ ((16 * n1) + x1) < 16016 from by omega), ?_⟩
  intro x3 e_x3
  intro x4 r_x4 h1_x4 h2_x4
  refine ⟨fun c5 => ?_, fun c5 => ?_⟩
  ·
    exact (show 0 ≤ 0 ∧ 0 ≤ 1 from by omega)
  ·
    exact (show 0 ≤ 1 ∧ 1 ≤ 1 from by omega)
set_option maxHeartbeats 1000000 in
theorem K_X13_setApart {n1 : Int} {n2 : Int} {n3 : Int} {σ : S0} (hT : m_T σ) (p1 : 0 ≤ n1) (p2 : n1 < 1000) (p3 : 0 ≤ n2) (p4 : n2 < 1000) : W_X13_setApart n1 n2 n3 σ (fun (τ : S0) => (m_T τ)) := by
  intro P74 P133 h74 h133
  intro x1 r_x1 h1_x1 h2_x1
  intro x2 r_x2 h1_x2 h2_x2
  intro x3 r_x3 h1_x3 h2_x3
  refine ⟨fun c4 => ?_, fun c4 => ?_⟩
  ·
    intro x5 r_x5 h1_x5 h2_x5
    refine ⟨(show 0 ≤ ((16 * n1) + x5) ∧ ((16 * n1) + x5) < 16016 from by omega), ?_⟩
    intro x7 e_x7
    refine ⟨(⟨by omega, by omega⟩ : rg ((16 * n1) + x3)), ?_⟩
    refine h74 _ _ _ _ _ _ _ ?_
    refine ⟨(show 0 ≤ ((16 * n1) + x3) ∧ ((16 * n1) + x3) < 16016 from by omega), ?_⟩
    replace hT := mT_b (k := 1) (j := ((16 * n1) + x3)) (x := (x7 &&& ((j_shl 1 x1) ^^^ (-1)))) hT
    intro x14 r_x14 h1_x14 h2_x14
    refine ⟨fun c15 => ?_, fun c15 => ?_⟩
    ·
      intro x16 r_x16 h1_x16 h2_x16
      refine ⟨(show 0 ≤ ((16 * n2) + x16) ∧ ((16 * n2) + x16) < 16016 from by omega), ?_⟩
      intro x18 e_x18
      refine ⟨(⟨by omega, by omega⟩ : rg ((16 * n2) + x14)), ?_⟩
      obtain ⟨τ_133, e_τ_133⟩ : ∃ z : S0, z = s_b σ 1 ((16 * n1) + x3) (x7 &&& ((j_shl 1 x1) ^^^ (-1))) := ⟨_, rfl⟩
      rw [← e_τ_133]
      replace hT : m_T τ_133 := by rw [e_τ_133]; exact hT
      refine h133 _ _ _ ?_
      refine ⟨(show 0 ≤ ((16 * n2) + x14) ∧ ((16 * n2) + x14) < 16016 from by omega), ?_⟩
      replace hT := mT_b (k := 1) (j := ((16 * n2) + x14)) (x := (x18 &&& ((j_shl 1 x2) ^^^ (-1)))) hT
      exact hT
    ·
      intro x20 r_x20 h1_x20 h2_x20
      refine ⟨(show 0 ≤ ((16 * n2) + x20) ∧ ((16 * n2) + x20) < 16016 from by omega), ?_⟩
      intro x22 e_x22
      refine ⟨(⟨by omega, by omega⟩ : rg ((16 * n2) + x14)), ?_⟩
      obtain ⟨τ_133, e_τ_133⟩ : ∃ z : S0, z = s_b σ 1 ((16 * n1) + x3) (x7 &&& ((j_shl 1 x1) ^^^ (-1))) := ⟨_, rfl⟩
      rw [← e_τ_133]
      replace hT : m_T τ_133 := by rw [e_τ_133]; exact hT
      refine h133 _ _ _ ?_
      refine ⟨(show 0 ≤ ((16 * n2) + x14) ∧ ((16 * n2) + x14) < 16016 from by omega), ?_⟩
      replace hT := mT_b (k := 1) (j := ((16 * n2) + x14)) (x := (x22 ||| (j_shl 1 x2))) hT
      exact hT
  ·
    intro x9 r_x9 h1_x9 h2_x9
    refine ⟨(show 0 ≤ ((16 * n1) + x9) ∧ ((16 * n1) + x9) < 16016 from by omega), ?_⟩
    intro x11 e_x11
    refine ⟨(⟨by omega, by omega⟩ : rg ((16 * n1) + x3)), ?_⟩
    refine h74 _ _ _ _ _ _ _ ?_
    refine ⟨(show 0 ≤ ((16 * n1) + x3) ∧ ((16 * n1) + x3) < 16016 from by omega), ?_⟩
    replace hT := mT_b (k := 1) (j := ((16 * n1) + x3)) (x := (x11 ||| (j_shl 1 x1))) hT
    intro x14 r_x14 h1_x14 h2_x14
    refine ⟨fun c15 => ?_, fun c15 => ?_⟩
    ·
      intro x16 r_x16 h1_x16 h2_x16
      refine ⟨(show 0 ≤ ((16 * n2) + x16) ∧ ((16 * n2) + x16) < 16016 from by omega), ?_⟩
      intro x18 e_x18
      refine ⟨(⟨by omega, by omega⟩ : rg ((16 * n2) + x14)), ?_⟩
      obtain ⟨τ_133, e_τ_133⟩ : ∃ z : S0, z = s_b σ 1 ((16 * n1) + x3) (x11 ||| (j_shl 1 x1)) := ⟨_, rfl⟩
      rw [← e_τ_133]
      replace hT : m_T τ_133 := by rw [e_τ_133]; exact hT
      refine h133 _ _ _ ?_
      refine ⟨(show 0 ≤ ((16 * n2) + x14) ∧ ((16 * n2) + x14) < 16016 from by omega), ?_⟩
      replace hT := mT_b (k := 1) (j := ((16 * n2) + x14)) (x := (x18 &&& ((j_shl 1 x2) ^^^ (-1)))) hT
      exact hT
    ·
      intro x20 r_x20 h1_x20 h2_x20
      refine ⟨(show 0 ≤ ((16 * n2) + x20) ∧ ((16 * n2) + x20) < 16016 from by omega), ?_⟩
      intro x22 e_x22
      refine ⟨(⟨by omega, by omega⟩ : rg ((16 * n2) + x14)), ?_⟩
      obtain ⟨τ_133, e_τ_133⟩ : ∃ z : S0, z = s_b σ 1 ((16 * n1) + x3) (x11 ||| (j_shl 1 x1)) := ⟨_, rfl⟩
      rw [← e_τ_133]
      replace hT : m_T τ_133 := by rw [e_τ_133]; exact hT
      refine h133 _ _ _ ?_
      refine ⟨(show 0 ≤ ((16 * n2) + x14) ∧ ((16 * n2) + x14) < 16016 from by omega), ?_⟩
      replace hT := mT_b (k := 1) (j := ((16 * n2) + x14)) (x := (x22 ||| (j_shl 1 x2))) hT
      exact hT
set_option maxHeartbeats 1000000 in
theorem K_X13_dropTo {n1 : Int} {n2 : Int} {n3 : Int} {σ : S0} (hT : m_T σ) (p1 : 0 ≤ n1) (p2 : 0 ≤ n2) (p3 : 0 ≤ n3) (p4 : (σ.1 12) ≤ ca (σ.2.1 9) (σ.1 3)) : W_X13_dropTo n1 n2 n3 σ (fun (τ : S0) => (m_T τ) ∧ (n1 ≤ (σ.1 12) → (τ.1 12) = n1) ∧ (n2 ≤ (σ.1 13) → (τ.1 13) = n2) ∧ (n3 ≤ (σ.1 14) → (τ.1 14) = n3) ∧ ((τ.1 12) ≤ (σ.1 12)) ∧ ((τ.1 13) ≤ (σ.1 13)) ∧ ((τ.1 14) ≤ (σ.1 14)) ∧ ((τ.1 12) ≤ ca (τ.2.1 9) (τ.1 3))) := by
  have A9 : ∀ j, 0 ≤ σ.2.1 9 j ∧ σ.2.1 9 j ≤ 1 := fun j => hT.2 9 j
  have v3 : 0 ≤ σ.1 3 ∧ σ.1 3 ≤ 1000 := hT.1 3
  have v12 : 0 ≤ σ.1 12 ∧ σ.1 12 ≤ 1000 := hT.1 12
  have v13 : 0 ≤ σ.1 13 ∧ σ.1 13 ≤ 1500 := hT.1 13
  have v14 : 0 ≤ σ.1 14 ∧ σ.1 14 ≤ 1000 := hT.1 14
  have W3 : σ.1 3 = σ.1 3 := rfl
  intro P0 P36 P98 h0 h36 h98
  have l_98 : ∀ (m_98 : Nat) (τ_98 : S0), (τ_98.1 14) < (m_98 : Int) → (m_T τ_98) → (τ_98.1 3 = σ.1 3) → (n1 ≤ (σ.1 12) → n1 = (τ_98.1 12)) → ((τ_98.1 12) ≤ (σ.1 12)) → (n2 ≤ (σ.1 13) → n2 = (τ_98.1 13)) → ((τ_98.1 13) ≤ (σ.1 13)) → (n3 ≤ (σ.1 14) → n3 ≤ (τ_98.1 14)) → ((τ_98.1 14) ≤ (σ.1 14)) → ((τ_98.1 12) ≤ ca (τ_98.2.1 9) (τ_98.1 3)) → P98 n3 τ_98 := by
    intro m_98
    induction m_98 with
    | zero =>
      intro τ_98 hm hT W3 i98_1 i98_2 i98_3 i98_4 i98_5 i98_6 i98_7
      have A9 : ∀ j, 0 ≤ τ_98.2.1 9 j ∧ τ_98.2.1 9 j ≤ 1 := fun j => hT.2 9 j
      have v3 : 0 ≤ τ_98.1 3 ∧ τ_98.1 3 ≤ 1000 := hT.1 3
      have v12 : 0 ≤ τ_98.1 12 ∧ τ_98.1 12 ≤ 1000 := hT.1 12
      have v13 : 0 ≤ τ_98.1 13 ∧ τ_98.1 13 ≤ 1500 := hT.1 13
      have v14 : 0 ≤ τ_98.1 14 ∧ τ_98.1 14 ≤ 1000 := hT.1 14
      exfalso; omega
    | succ m_98 ih_98 =>
      intro τ_98 hm_98 hT W3 i98_1 i98_2 i98_3 i98_4 i98_5 i98_6 i98_7
      have A9 : ∀ j, 0 ≤ τ_98.2.1 9 j ∧ τ_98.2.1 9 j ≤ 1 := fun j => hT.2 9 j
      have v3 : 0 ≤ τ_98.1 3 ∧ τ_98.1 3 ≤ 1000 := hT.1 3
      have v12 : 0 ≤ τ_98.1 12 ∧ τ_98.1 12 ≤ 1000 := hT.1 12
      have v13 : 0 ≤ τ_98.1 13 ∧ τ_98.1 13 ≤ 1500 := hT.1 13
      have v14 : 0 ≤ τ_98.1 14 ∧ τ_98.1 14 ≤ 1000 := hT.1 14
      refine h98 _ _ ?_
      refine ⟨fun c17 => ?_, fun c17 => ?_⟩
      ·
        exact ⟨hT, (show n1 ≤ (σ.1 12) → (τ_98.1 12) = n1 from by omega), (show n2 ≤ (σ.1 13) → (τ_98.1 13) = n2 from by omega), (show n3 ≤ (σ.1 14) → (τ_98.1 14) = n3 from by omega), (show (τ_98.1 12) ≤ (σ.1 12) from by omega), (show (τ_98.1 13) ≤ (σ.1 13) from by omega), (show (τ_98.1 14) ≤ (σ.1 14) from by omega), (show (τ_98.1 12) ≤ ca (τ_98.2.1 9) (τ_98.1 3) from by omega)⟩
      ·
        refine ⟨(⟨by omega, by omega⟩ : rg (τ_98.1 14 - 1)), ?_⟩
        replace hT := mT_v (i := 14) hT (show 0 ≤ (τ_98.1 14 - 1) ∧ (τ_98.1 14 - 1) ≤ 1000 from by omega)
        refine ⟨(show 0 ≤ (τ_98.1 14 - 1) ∧ (τ_98.1 14 - 1) < 1001 from by omega), ?_⟩
        intro x20 r_x20 e_x20
        have b_x20 : 0 ≤ x20 ∧ x20 ≤ 999 := by rw [e_x20]; exact hT.2 32 _
        intro x21 r_x21 e_x21
        have b_x21 : 0 ≤ x21 ∧ x21 ≤ 999 := by rw [e_x21]; exact hT.2 33 _
        refine ⟨_, K_X13_setApart hT (show 0 ≤ x20 from by omega) (show x20 < 1000 from by omega) (show 0 ≤ x21 from by omega) (show x21 < 1000 from by omega), ?_⟩
        intro τ24 hn_τ24 hf_τ24 hq
        replace hT := hq
        have w3_τ24 : τ24.1 3 = τ_98.1 3 := hf_τ24.1 3 (by decide)
        have w12_τ24 : τ24.1 12 = τ_98.1 12 := hf_τ24.1 12 (by decide)
        have w13_τ24 : τ24.1 13 = τ_98.1 13 := hf_τ24.1 13 (by decide)
        have w14_τ24 : τ24.1 14 = (τ_98.1 14 - 1) := hf_τ24.1 14 (by decide)
        have g9_τ24 : τ24.2.1 9 = τ_98.2.1 9 := hf_τ24.2.1 9 (by decide)
        first | (have ca_τ24 := congr (congrArg ca g9_τ24) w3_τ24) | skip
        have W3 : τ24.1 3 = σ.1 3 := by omega
        have A9 : ∀ j, 0 ≤ τ24.2.1 9 j ∧ τ24.2.1 9 j ≤ 1 := fun j => hT.2 9 j
        have v3 : 0 ≤ τ24.1 3 ∧ τ24.1 3 ≤ 1000 := hT.1 3
        have v12 : 0 ≤ τ24.1 12 ∧ τ24.1 12 ≤ 1000 := hT.1 12
        have v13 : 0 ≤ τ24.1 13 ∧ τ24.1 13 ≤ 1500 := hT.1 13
        have v14 : 0 ≤ τ24.1 14 ∧ τ24.1 14 ≤ 1000 := hT.1 14
        exact ih_98 _ (show ((τ24.1 14) : Int) < ((m_98 : Nat) : Int) from by (omega)) hT (show τ24.1 3 = σ.1 3 from by omega) (show n1 ≤ (σ.1 12) → n1 = (τ24.1 12) from by omega) (show (τ24.1 12) ≤ (σ.1 12) from by omega) (show n2 ≤ (σ.1 13) → n2 = (τ24.1 13) from by omega) (show (τ24.1 13) ≤ (σ.1 13) from by omega) (show n3 ≤ (σ.1 14) → n3 ≤ (τ24.1 14) from by omega) (show (τ24.1 14) ≤ (σ.1 14) from by omega) (show (τ24.1 12) ≤ ca (τ24.2.1 9) (τ24.1 3) from by omega)
  have l_36 : ∀ (m_36 : Nat) (τ_36 : S0), (τ_36.1 13) < (m_36 : Int) → (m_T τ_36) → (τ_36.1 3 = σ.1 3) → (n1 ≤ (σ.1 12) → n1 = (τ_36.1 12)) → ((τ_36.1 12) ≤ (σ.1 12)) → (n2 ≤ (σ.1 13) → n2 ≤ (τ_36.1 13)) → ((τ_36.1 13) ≤ (σ.1 13)) → ((τ_36.1 14) = (σ.1 14)) → ((τ_36.1 12) ≤ ca (τ_36.2.1 9) (τ_36.1 3)) → P36 n2 n3 τ_36 := by
    intro m_36
    induction m_36 with
    | zero =>
      intro τ_36 hm hT W3 i36_1 i36_2 i36_3 i36_4 i36_5 i36_6
      have A9 : ∀ j, 0 ≤ τ_36.2.1 9 j ∧ τ_36.2.1 9 j ≤ 1 := fun j => hT.2 9 j
      have v3 : 0 ≤ τ_36.1 3 ∧ τ_36.1 3 ≤ 1000 := hT.1 3
      have v12 : 0 ≤ τ_36.1 12 ∧ τ_36.1 12 ≤ 1000 := hT.1 12
      have v13 : 0 ≤ τ_36.1 13 ∧ τ_36.1 13 ≤ 1500 := hT.1 13
      have v14 : 0 ≤ τ_36.1 14 ∧ τ_36.1 14 ≤ 1000 := hT.1 14
      exfalso; omega
    | succ m_36 ih_36 =>
      intro τ_36 hm_36 hT W3 i36_1 i36_2 i36_3 i36_4 i36_5 i36_6
      have A9 : ∀ j, 0 ≤ τ_36.2.1 9 j ∧ τ_36.2.1 9 j ≤ 1 := fun j => hT.2 9 j
      have v3 : 0 ≤ τ_36.1 3 ∧ τ_36.1 3 ≤ 1000 := hT.1 3
      have v12 : 0 ≤ τ_36.1 12 ∧ τ_36.1 12 ≤ 1000 := hT.1 12
      have v13 : 0 ≤ τ_36.1 13 ∧ τ_36.1 13 ≤ 1500 := hT.1 13
      have v14 : 0 ≤ τ_36.1 14 ∧ τ_36.1 14 ≤ 1000 := hT.1 14
      refine h36 _ _ _ ?_
      refine ⟨fun c6 => ?_, fun c6 => ?_⟩
      ·
        exact l_98 (((τ_36.1 14) : Int).toNat + 1) _ (show ((τ_36.1 14) : Int) < ((((τ_36.1 14) : Int).toNat + 1 : Nat) : Int) from by (omega)) hT (show τ_36.1 3 = σ.1 3 from by omega) (show n1 ≤ (σ.1 12) → n1 = (τ_36.1 12) from by omega) (show (τ_36.1 12) ≤ (σ.1 12) from by omega) (show n2 ≤ (σ.1 13) → n2 = (τ_36.1 13) from by omega) (show (τ_36.1 13) ≤ (σ.1 13) from by omega) (show n3 ≤ (σ.1 14) → n3 ≤ (τ_36.1 14) from by omega) (show (τ_36.1 14) ≤ (σ.1 14) from by omega) (show (τ_36.1 12) ≤ ca (τ_36.2.1 9) (τ_36.1 3) from by omega)
      ·
        refine ⟨(⟨by omega, by omega⟩ : rg (τ_36.1 13 - 1)), ?_⟩
        replace hT := mT_v (i := 13) hT (show 0 ≤ (τ_36.1 13 - 1) ∧ (τ_36.1 13 - 1) ≤ 1500 from by omega)
        refine ⟨(show 0 ≤ (τ_36.1 13 - 1) ∧ (τ_36.1 13 - 1) < 1501 from by omega), ?_⟩
        intro x9 r_x9 e_x9
        have b_x9 : 0 ≤ x9 ∧ x9 ≤ 1499 := by rw [e_x9]; exact hT.2 31 _
        refine ⟨(show 0 ≤ x9 ∧ x9 < 1501 from by omega), ?_⟩
        intro x11 r_x11 e_x11
        have b_x11 : 0 ≤ x11 ∧ x11 ≤ 4 := by rw [e_x11]; exact hT.2 13 _
        refine ⟨fun c12 => ?_, fun c12 => ?_⟩
        ·
          exact ih_36 _ (show (((τ_36.1 13 - 1)) : Int) < ((m_36 : Nat) : Int) from by (omega)) hT (show τ_36.1 3 = σ.1 3 from by omega) (show n1 ≤ (σ.1 12) → n1 = (τ_36.1 12) from by omega) (show (τ_36.1 12) ≤ (σ.1 12) from by omega) (show n2 ≤ (σ.1 13) → n2 ≤ ((τ_36.1 13 - 1)) from by omega) (show ((τ_36.1 13 - 1)) ≤ (σ.1 13) from by omega) (show (τ_36.1 14) = (σ.1 14) from by omega) (show (τ_36.1 12) ≤ ca (τ_36.2.1 9) (τ_36.1 3) from by omega)
        ·
          intro x13 r_x13 e_x13
          have b_x13 : 0 ≤ x13 ∧ x13 ≤ 30000 := by rw [e_x13]; exact hT.2 14 _
          refine ⟨(show 0 ≤ (x13 + 1) ∧ (x13 + 1) < 30400 from by omega), ?_⟩
          intro x15 r_x15 e_x15
          have b_x15 : 0 ≤ x15 ∧ x15 ≤ 999 := by rw [e_x15]; exact hT.2 16 _
          refine ⟨(show 0 ≤ x15 ∧ x15 < 1001 from by omega), ?_⟩
          replace hT := mT_a (k := 11) (j := x15) hT (show (-1 : Int) ≤ (-1) ∧ (-1) ≤ 1499 from by omega)
          exact ih_36 _ (show (((τ_36.1 13 - 1)) : Int) < ((m_36 : Nat) : Int) from by (omega)) hT (show τ_36.1 3 = σ.1 3 from by omega) (show n1 ≤ (σ.1 12) → n1 = (τ_36.1 12) from by omega) (show (τ_36.1 12) ≤ (σ.1 12) from by omega) (show n2 ≤ (σ.1 13) → n2 ≤ ((τ_36.1 13 - 1)) from by omega) (show ((τ_36.1 13 - 1)) ≤ (σ.1 13) from by omega) (show (τ_36.1 14) = (σ.1 14) from by omega) (show (τ_36.1 12) ≤ ca (τ_36.2.1 9) (τ_36.1 3) from by omega)
  have l_0 : ∀ (m_0 : Nat) (τ_0 : S0), (τ_0.1 12) < (m_0 : Int) → (m_T τ_0) → (τ_0.1 3 = σ.1 3) → (n1 ≤ (σ.1 12) → n1 ≤ (τ_0.1 12)) → ((τ_0.1 12) ≤ (σ.1 12)) → ((τ_0.1 13) = (σ.1 13)) → ((τ_0.1 14) = (σ.1 14)) → ((τ_0.1 12) ≤ ca (τ_0.2.1 9) (τ_0.1 3)) → P0 n1 n2 n3 τ_0 := by
    intro m_0
    induction m_0 with
    | zero =>
      intro τ_0 hm hT W3 i0_1 i0_2 i0_3 i0_4 i0_5
      have A9 : ∀ j, 0 ≤ τ_0.2.1 9 j ∧ τ_0.2.1 9 j ≤ 1 := fun j => hT.2 9 j
      have v3 : 0 ≤ τ_0.1 3 ∧ τ_0.1 3 ≤ 1000 := hT.1 3
      have v12 : 0 ≤ τ_0.1 12 ∧ τ_0.1 12 ≤ 1000 := hT.1 12
      have v13 : 0 ≤ τ_0.1 13 ∧ τ_0.1 13 ≤ 1500 := hT.1 13
      have v14 : 0 ≤ τ_0.1 14 ∧ τ_0.1 14 ≤ 1000 := hT.1 14
      exfalso; omega
    | succ m_0 ih_0 =>
      intro τ_0 hm_0 hT W3 i0_1 i0_2 i0_3 i0_4 i0_5
      have A9 : ∀ j, 0 ≤ τ_0.2.1 9 j ∧ τ_0.2.1 9 j ≤ 1 := fun j => hT.2 9 j
      have v3 : 0 ≤ τ_0.1 3 ∧ τ_0.1 3 ≤ 1000 := hT.1 3
      have v12 : 0 ≤ τ_0.1 12 ∧ τ_0.1 12 ≤ 1000 := hT.1 12
      have v13 : 0 ≤ τ_0.1 13 ∧ τ_0.1 13 ≤ 1500 := hT.1 13
      have v14 : 0 ≤ τ_0.1 14 ∧ τ_0.1 14 ≤ 1000 := hT.1 14
      refine h0 _ _ _ _ ?_
      refine ⟨fun c1 => ?_, fun c1 => ?_⟩
      ·
        exact l_36 (((τ_0.1 13) : Int).toNat + 1) _ (show ((τ_0.1 13) : Int) < ((((τ_0.1 13) : Int).toNat + 1 : Nat) : Int) from by (omega)) hT (show τ_0.1 3 = σ.1 3 from by omega) (show n1 ≤ (σ.1 12) → n1 = (τ_0.1 12) from by omega) (show (τ_0.1 12) ≤ (σ.1 12) from by omega) (show n2 ≤ (σ.1 13) → n2 ≤ (τ_0.1 13) from by omega) (show (τ_0.1 13) ≤ (σ.1 13) from by omega) (show (τ_0.1 14) = (σ.1 14) from by omega) (show (τ_0.1 12) ≤ ca (τ_0.2.1 9) (τ_0.1 3) from by omega)
      ·
        refine ⟨(⟨by omega, by omega⟩ : rg (τ_0.1 12 - 1)), ?_⟩
        replace hT := mT_v (i := 12) hT (show 0 ≤ (τ_0.1 12 - 1) ∧ (τ_0.1 12 - 1) ≤ 1000 from by omega)
        refine ⟨(show 0 ≤ (τ_0.1 12 - 1) ∧ (τ_0.1 12 - 1) < 1001 from by omega), ?_⟩
        intro x4 r_x4 e_x4
        have b_x4 : 0 ≤ x4 ∧ x4 ≤ 999 := by rw [e_x4]; exact hT.2 30 _
        have ct := ca_t0 (τ_0.2.1 9) x4 (τ_0.1 3) 0 (by omega) (by omega)
        refine ⟨(show 0 ≤ x4 ∧ x4 < 1001 from by omega), ?_⟩
        replace hT := mT_a (k := 9) (j := x4) hT (show (0 : Int) ≤ 0 ∧ 0 ≤ 1 from by omega)
        exact ih_0 _ (show (((τ_0.1 12 - 1)) : Int) < ((m_0 : Nat) : Int) from by (omega)) hT (show τ_0.1 3 = σ.1 3 from by omega) (show n1 ≤ (σ.1 12) → n1 ≤ ((τ_0.1 12 - 1)) from by omega) (show ((τ_0.1 12 - 1)) ≤ (σ.1 12) from by omega) (show (τ_0.1 13) = (σ.1 13) from by omega) (show (τ_0.1 14) = (σ.1 14) from by omega) (show ((τ_0.1 12 - 1)) ≤ ca ((st (τ_0.2.1 9) x4 0)) (τ_0.1 3) from by omega)
  exact l_0 (((σ.1 12) : Int).toNat + 1) _ (show ((σ.1 12) : Int) < ((((σ.1 12) : Int).toNat + 1 : Nat) : Int) from by (omega)) hT (show σ.1 3 = σ.1 3 from by omega) (show n1 ≤ (σ.1 12) → n1 ≤ (σ.1 12) from by omega) (show (σ.1 12) ≤ (σ.1 12) from by omega) (show (σ.1 13) = (σ.1 13) from by omega) (show (σ.1 14) = (σ.1 14) from by omega) (show (σ.1 12) ≤ ca (σ.2.1 9) (σ.1 3) from by omega)
set_option maxHeartbeats 1000000 in
theorem K_X13_fail {n1 : Int} {n2 : Int} {σ : S0} (hT : m_T σ) (p1 : 0 ≤ n1) (p2 : n1 ≤ 19) (p3 : -1 ≤ n2) (p4 : n2 ≤ 60000) : W_X13_fail n1 n2 σ (fun (τ : S0) => (m_T τ) ∧ (¬ (σ.1 20) = 0 → (τ.1 20) = (σ.1 20)) ∧ ((σ.1 20) = 0 → (τ.1 20) = n1)) := by
  have v20 : 0 ≤ σ.1 20 ∧ σ.1 20 ≤ 19 := hT.1 20
  unfold W_X13_fail
  refine ⟨fun c1 => ?_, fun c1 => ?_⟩
  ·
    exact ⟨hT, (show ¬ (σ.1 20) = 0 → (σ.1 20) = (σ.1 20) from by omega), (show (σ.1 20) = 0 → (σ.1 20) = n1 from by omega)⟩
  ·
    replace hT := mT_v (i := 20) hT (show 0 ≤ n1 ∧ n1 ≤ 19 from by omega)
    replace hT := mT_v (i := 21) hT (show (-1) ≤ n2 ∧ n2 ≤ 60000 from by omega)
    exact ⟨hT, (show ¬ (σ.1 20) = 0 → (n1) = (σ.1 20) from by omega), (show (σ.1 20) = 0 → (n1) = n1 from by omega)⟩
set_option maxHeartbeats 1000000 in
theorem K_X13_hasDollar {n1 : Int} {n2 : Int} {σ : S0} (hT : m_T σ) (p1 : (σ.1 17) + (σ.1 18) ≤ 60000) : W_X13_hasDollar n1 n2 σ (fun (x : Int) => (0 ≤ x ∧ x ≤ 1)) := by
  have v17 : 0 ≤ σ.1 17 ∧ σ.1 17 ≤ 60000 := hT.1 17
  have v18 : 0 ≤ σ.1 18 ∧ σ.1 18 ≤ 60000 := hT.1 18
  intro P5 h5
  have l_5 : ∀ (m_5 : Nat) (u3_5 : Int) (u4_5 : Int), 60001 - u4_5 < (m_5 : Int) → (0 ≤ u4_5) → (u4_5 ≤ 60000) → (0 ≤ u3_5) → (u3_5 ≤ 1) → P5 n1 n2 u3_5 u4_5 := by
    intro m_5
    induction m_5 with
    | zero =>
      intro u3_5 u4_5 hm i5_1 i5_2 i5_3 i5_4
      exfalso; omega
    | succ m_5 ih_5 =>
      intro u3_5 u4_5 hm_5 i5_1 i5_2 i5_3 i5_4
      refine h5 _ _ _ _ ?_
      refine ⟨(⟨by omega, by omega⟩ : rg (u4_5 + 1)), ?_⟩
      refine ⟨fun c2 => ?_, fun c2 => ?_⟩
      ·
        refine ⟨(show 0 ≤ u3_5 ∧ u3_5 ≤ 1 from by omega), ?_⟩
        exact (show 0 ≤ u3_5 ∧ u3_5 ≤ 1 from by omega)
      ·
        refine ⟨fun c4 => ?_, fun c4 => ?_⟩
        ·
          exact ih_5 _ _ (show (60001 - (u4_5 + 1) : Int) < ((m_5 : Nat) : Int) from by (omega)) (show 0 ≤ (u4_5 + 1) from by omega) (show (u4_5 + 1) ≤ 60000 from by omega) (show 0 ≤ 1 from by omega) (show 1 ≤ 1 from by omega)
        ·
          refine ⟨(show 0 ≤ (σ.1 17 + u4_5) ∧ (σ.1 17 + u4_5) < 60000 from by omega), ?_⟩
          intro x6 r_x6 e_x6
          have b_x6 : 0 ≤ x6 ∧ x6 ≤ 255 := by rw [e_x6]; exact hT.2 0 _
          refine ⟨fun c7 => ?_, fun c7 => ?_⟩
          ·
            exact ih_5 _ _ (show (60001 - (u4_5 + 1) : Int) < ((m_5 : Nat) : Int) from by (omega)) (show 0 ≤ (u4_5 + 1) from by omega) (show (u4_5 + 1) ≤ 60000 from by omega) (show 0 ≤ 0 from by omega) (show 0 ≤ 1 from by omega)
          ·
            refine ⟨(show 0 ≤ ((σ.1 17 + u4_5) + 1) ∧ ((σ.1 17 + u4_5) + 1) < 60000 from by omega), ?_⟩
            intro x9 r_x9 e_x9
            have b_x9 : 0 ≤ x9 ∧ x9 ≤ 255 := by rw [e_x9]; exact hT.2 0 _
            refine ⟨fun c10 => ?_, fun c10 => ?_⟩
            ·
              exact ih_5 _ _ (show (60001 - (u4_5 + 1) : Int) < ((m_5 : Nat) : Int) from by (omega)) (show 0 ≤ (u4_5 + 1) from by omega) (show (u4_5 + 1) ≤ 60000 from by omega) (show 0 ≤ 1 from by omega) (show 1 ≤ 1 from by omega)
            ·
              intro x11 r_x11 e_x11
              have b_x11 : 0 ≤ x11 ∧ x11 ≤ 255 := by rw [e_x11]; exact hT.2 0 _
              refine ⟨fun c12 => ?_, fun c12 => ?_⟩
              ·
                exact ih_5 _ _ (show (60001 - (u4_5 + 1) : Int) < ((m_5 : Nat) : Int) from by (omega)) (show 0 ≤ (u4_5 + 1) from by omega) (show (u4_5 + 1) ≤ 60000 from by omega) (show 0 ≤ 0 from by omega) (show 0 ≤ 1 from by omega)
              ·
                exact ih_5 _ _ (show (60001 - (u4_5 + 1) : Int) < ((m_5 : Nat) : Int) from by (omega)) (show 0 ≤ (u4_5 + 1) from by omega) (show (u4_5 + 1) ≤ 60000 from by omega) (show 0 ≤ 1 from by omega) (show 1 ≤ 1 from by omega)
  exact l_5 ((60001 - 0 : Int).toNat + 1) _ _ (show (60001 - 0 : Int) < (((60001 - 0 : Int).toNat + 1 : Nat) : Int) from by (omega)) (show 0 ≤ 0 from by omega) (show 0 ≤ 60000 from by omega) (show 0 ≤ 0 from by omega) (show 0 ≤ 1 from by omega)
set_option maxHeartbeats 1000000 in
theorem K_X13_hasSign {n1 : Int} {σ : S0} (hT : m_T σ) (p1 : (σ.1 17) + (σ.1 18) ≤ 60000) : W_X13_hasSign n1 σ (fun (x : Int) => (0 ≤ x ∧ x ≤ 1)) := by
  have v17 : 0 ≤ σ.1 17 ∧ σ.1 17 ≤ 60000 := hT.1 17
  have v18 : 0 ≤ σ.1 18 ∧ σ.1 18 ≤ 60000 := hT.1 18
  intro P4 h4
  have l_4 : ∀ (m_4 : Nat) (u2_4 : Int) (u3_4 : Int), 60001 - u3_4 < (m_4 : Int) → (0 ≤ u3_4) → (u3_4 ≤ 60000) → (0 ≤ u2_4) → (u2_4 ≤ 1) → P4 n1 u2_4 u3_4 := by
    intro m_4
    induction m_4 with
    | zero =>
      intro u2_4 u3_4 hm i4_1 i4_2 i4_3 i4_4
      exfalso; omega
    | succ m_4 ih_4 =>
      intro u2_4 u3_4 hm_4 i4_1 i4_2 i4_3 i4_4
      refine h4 _ _ _ ?_
      refine ⟨fun c1 => ?_, fun c1 => ?_⟩
      ·
        refine ⟨(show 0 ≤ u2_4 ∧ u2_4 ≤ 1 from by omega), ?_⟩
        exact (show 0 ≤ u2_4 ∧ u2_4 ≤ 1 from by omega)
      ·
        refine ⟨fun c3 => ?_, fun c3 => ?_⟩
        ·
          refine ⟨(⟨by omega, by omega⟩ : rg (u3_4 + 1)), ?_⟩
          exact ih_4 _ _ (show (60001 - (u3_4 + 1) : Int) < ((m_4 : Nat) : Int) from by (omega)) (show 0 ≤ (u3_4 + 1) from by omega) (show (u3_4 + 1) ≤ 60000 from by omega) (show 0 ≤ 1 from by omega) (show 1 ≤ 1 from by omega)
        ·
          refine ⟨(show 0 ≤ (σ.1 17 + u3_4) ∧ (σ.1 17 + u3_4) < 60000 from by omega), ?_⟩
          intro x6 r_x6 e_x6
          have b_x6 : 0 ≤ x6 ∧ x6 ≤ 255 := by rw [e_x6]; exact hT.2 0 _
          refine ⟨fun c7 => ?_, fun c7 => ?_⟩
          ·
            refine ⟨(⟨by omega, by omega⟩ : rg (u3_4 + 1)), ?_⟩
            exact ih_4 _ _ (show (60001 - (u3_4 + 1) : Int) < ((m_4 : Nat) : Int) from by (omega)) (show 0 ≤ (u3_4 + 1) from by omega) (show (u3_4 + 1) ≤ 60000 from by omega) (show 0 ≤ 0 from by omega) (show 0 ≤ 1 from by omega)
          ·
            refine ⟨(⟨by omega, by omega⟩ : rg (u3_4 + 1)), ?_⟩
            exact ih_4 _ _ (show (60001 - (u3_4 + 1) : Int) < ((m_4 : Nat) : Int) from by (omega)) (show 0 ≤ (u3_4 + 1) from by omega) (show (u3_4 + 1) ≤ 60000 from by omega) (show 0 ≤ 1 from by omega) (show 1 ≤ 1 from by omega)
  exact l_4 ((60001 - 0 : Int).toNat + 1) _ _ (show (60001 - 0 : Int) < (((60001 - 0 : Int).toNat + 1 : Nat) : Int) from by (omega)) (show 0 ≤ 0 from by omega) (show 0 ≤ 60000 from by omega) (show 0 ≤ 0 from by omega) (show 0 ≤ 1 from by omega)
set_option maxHeartbeats 1000000 in
theorem K_X13_nextRow {σ : S0} (hT : m_T σ) (p1 : (σ.1 16) ≤ (σ.1 0)) : W_X13_nextRow σ (fun (x : Int) (τ : S0) => (m_T τ) ∧ (0 ≤ x ∧ x ≤ 1) ∧ ((τ.1 16) ≤ (τ.1 0)) ∧ ((τ.1 17) + (τ.1 18) = (τ.1 16)) ∧ (¬ x = 0 → 0 < (τ.1 18) ∧ (τ.1 20) = 0) ∧ ((σ.1 16) ≤ (τ.1 17)) ∧ (¬ x = 0 → (σ.1 16) < (τ.1 16)) ∧ (¬ (σ.1 20) = 0 → (τ.1 20) = (σ.1 20))) := by
  have v0 : 0 ≤ σ.1 0 ∧ σ.1 0 ≤ 60000 := hT.1 0
  have v16 : 0 ≤ σ.1 16 ∧ σ.1 16 ≤ 60000 := hT.1 16
  have v17 : 0 ≤ σ.1 17 ∧ σ.1 17 ≤ 60000 := hT.1 17
  have v18 : 0 ≤ σ.1 18 ∧ σ.1 18 ≤ 60000 := hT.1 18
  have v20 : 0 ≤ σ.1 20 ∧ σ.1 20 ≤ 19 := hT.1 20
  have W0 : σ.1 0 = σ.1 0 := rfl
  intro P0 P39 P82 P121 h0 h39 h82 h121
  have l_82 : ∀ (m_82 : Nat) (τ_82 : S0), (τ_82.1 0) - (τ_82.1 16) < (m_82 : Int) → (m_T τ_82) → (τ_82.1 0 = σ.1 0) → ((τ_82.1 16) ≤ (τ_82.1 0)) → ((σ.1 16) ≤ (τ_82.1 17)) → ((τ_82.1 17) ≤ (τ_82.1 16)) → (¬ (σ.1 20) = 0 → (τ_82.1 20) = (σ.1 20)) → P82 τ_82 := by
    intro m_82
    induction m_82 with
    | zero =>
      intro τ_82 hm hT W0 i82_1 i82_2 i82_3 i82_4
      have v0 : 0 ≤ τ_82.1 0 ∧ τ_82.1 0 ≤ 60000 := hT.1 0
      have v16 : 0 ≤ τ_82.1 16 ∧ τ_82.1 16 ≤ 60000 := hT.1 16
      have v17 : 0 ≤ τ_82.1 17 ∧ τ_82.1 17 ≤ 60000 := hT.1 17
      have v18 : 0 ≤ τ_82.1 18 ∧ τ_82.1 18 ≤ 60000 := hT.1 18
      have v20 : 0 ≤ τ_82.1 20 ∧ τ_82.1 20 ≤ 19 := hT.1 20
      exfalso; omega
    | succ m_82 ih_82 =>
      intro τ_82 hm_82 hT W0 i82_1 i82_2 i82_3 i82_4
      have v0 : 0 ≤ τ_82.1 0 ∧ τ_82.1 0 ≤ 60000 := hT.1 0
      have v16 : 0 ≤ τ_82.1 16 ∧ τ_82.1 16 ≤ 60000 := hT.1 16
      have v17 : 0 ≤ τ_82.1 17 ∧ τ_82.1 17 ≤ 60000 := hT.1 17
      have v18 : 0 ≤ τ_82.1 18 ∧ τ_82.1 18 ≤ 60000 := hT.1 18
      have v20 : 0 ≤ τ_82.1 20 ∧ τ_82.1 20 ≤ 19 := hT.1 20
      refine h82 _ ?_
      refine ⟨fun c19 => ?_, fun c19 => ?_⟩
      ·
        refine h121 _ ?_
        refine ⟨(⟨by omega, by omega⟩ : rg (τ_82.1 16 - τ_82.1 17)), ?_⟩
        replace hT := mT_v (i := 18) hT (show 0 ≤ (τ_82.1 16 - τ_82.1 17) ∧ (τ_82.1 16 - τ_82.1 17) ≤ 60000 from by omega)
        refine ⟨fun c28 => ?_, fun c28 => ?_⟩
        ·
          exact ⟨hT, (show 0 ≤ 0 ∧ 0 ≤ 1 from by omega), (show (τ_82.1 16) ≤ (τ_82.1 0) from by omega), (show (τ_82.1 17) + ((τ_82.1 16 - τ_82.1 17)) = (τ_82.1 16) from by omega), (show ¬ 0 = 0 → 0 < ((τ_82.1 16 - τ_82.1 17)) ∧ (τ_82.1 20) = 0 from by omega), (show (σ.1 16) ≤ (τ_82.1 17) from by omega), (show ¬ 0 = 0 → (σ.1 16) < (τ_82.1 16) from by omega), (show ¬ (σ.1 20) = 0 → (τ_82.1 20) = (σ.1 20) from by omega)⟩
        ·
          refine ⟨fun c29 => ?_, fun c29 => ?_⟩
          ·
            exact ⟨hT, (show 0 ≤ 0 ∧ 0 ≤ 1 from by omega), (show (τ_82.1 16) ≤ (τ_82.1 0) from by omega), (show (τ_82.1 17) + ((τ_82.1 16 - τ_82.1 17)) = (τ_82.1 16) from by omega), (show ¬ 0 = 0 → 0 < ((τ_82.1 16 - τ_82.1 17)) ∧ (τ_82.1 20) = 0 from by omega), (show (σ.1 16) ≤ (τ_82.1 17) from by omega), (show ¬ 0 = 0 → (σ.1 16) < (τ_82.1 16) from by omega), (show ¬ (σ.1 20) = 0 → (τ_82.1 20) = (σ.1 20) from by omega)⟩
          ·
            exact ⟨hT, (show 0 ≤ 1 ∧ 1 ≤ 1 from by omega), (show (τ_82.1 16) ≤ (τ_82.1 0) from by omega), (show (τ_82.1 17) + ((τ_82.1 16 - τ_82.1 17)) = (τ_82.1 16) from by omega), (show ¬ 1 = 0 → 0 < ((τ_82.1 16 - τ_82.1 17)) ∧ (τ_82.1 20) = 0 from by omega), (show (σ.1 16) ≤ (τ_82.1 17) from by omega), (show ¬ 1 = 0 → (σ.1 16) < (τ_82.1 16) from by omega), (show ¬ (σ.1 20) = 0 → (τ_82.1 20) = (σ.1 20) from by omega)⟩
      ·
        refine ⟨(show 0 ≤ τ_82.1 16 ∧ τ_82.1 16 < 60000 from by omega), ?_⟩
        intro x21 r_x21 e_x21
        have b_x21 : 0 ≤ x21 ∧ x21 ≤ 255 := by rw [e_x21]; exact hT.2 0 _
        refine ⟨_, K_X13_isSign hT, ?_⟩
        intro x23 r_x23 hq
        have q22_1 := hq
        replace q22_1 : 0 ≤ x23 ∧ x23 ≤ 1 := q22_1
        refine ⟨fun c25 => ?_, fun c25 => ?_⟩
        ·
          refine h121 _ ?_
          refine ⟨(⟨by omega, by omega⟩ : rg (τ_82.1 16 - τ_82.1 17)), ?_⟩
          replace hT := mT_v (i := 18) hT (show 0 ≤ (τ_82.1 16 - τ_82.1 17) ∧ (τ_82.1 16 - τ_82.1 17) ≤ 60000 from by omega)
          refine ⟨fun c28 => ?_, fun c28 => ?_⟩
          ·
            exact ⟨hT, (show 0 ≤ 0 ∧ 0 ≤ 1 from by omega), (show (τ_82.1 16) ≤ (τ_82.1 0) from by omega), (show (τ_82.1 17) + ((τ_82.1 16 - τ_82.1 17)) = (τ_82.1 16) from by omega), (show ¬ 0 = 0 → 0 < ((τ_82.1 16 - τ_82.1 17)) ∧ (τ_82.1 20) = 0 from by omega), (show (σ.1 16) ≤ (τ_82.1 17) from by omega), (show ¬ 0 = 0 → (σ.1 16) < (τ_82.1 16) from by omega), (show ¬ (σ.1 20) = 0 → (τ_82.1 20) = (σ.1 20) from by omega)⟩
          ·
            refine ⟨fun c29 => ?_, fun c29 => ?_⟩
            ·
              exact ⟨hT, (show 0 ≤ 0 ∧ 0 ≤ 1 from by omega), (show (τ_82.1 16) ≤ (τ_82.1 0) from by omega), (show (τ_82.1 17) + ((τ_82.1 16 - τ_82.1 17)) = (τ_82.1 16) from by omega), (show ¬ 0 = 0 → 0 < ((τ_82.1 16 - τ_82.1 17)) ∧ (τ_82.1 20) = 0 from by omega), (show (σ.1 16) ≤ (τ_82.1 17) from by omega), (show ¬ 0 = 0 → (σ.1 16) < (τ_82.1 16) from by omega), (show ¬ (σ.1 20) = 0 → (τ_82.1 20) = (σ.1 20) from by omega)⟩
            ·
              exact ⟨hT, (show 0 ≤ 1 ∧ 1 ≤ 1 from by omega), (show (τ_82.1 16) ≤ (τ_82.1 0) from by omega), (show (τ_82.1 17) + ((τ_82.1 16 - τ_82.1 17)) = (τ_82.1 16) from by omega), (show ¬ 1 = 0 → 0 < ((τ_82.1 16 - τ_82.1 17)) ∧ (τ_82.1 20) = 0 from by omega), (show (σ.1 16) ≤ (τ_82.1 17) from by omega), (show ¬ 1 = 0 → (σ.1 16) < (τ_82.1 16) from by omega), (show ¬ (σ.1 20) = 0 → (τ_82.1 20) = (σ.1 20) from by omega)⟩
        ·
          refine ⟨(⟨by omega, by omega⟩ : rg (τ_82.1 16 + 1)), ?_⟩
          replace hT := mT_v (i := 16) hT (show 0 ≤ (τ_82.1 16 + 1) ∧ (τ_82.1 16 + 1) ≤ 60000 from by omega)
          exact ih_82 _ (show ((τ_82.1 0) - ((τ_82.1 16 + 1)) : Int) < ((m_82 : Nat) : Int) from by (omega)) hT (show τ_82.1 0 = σ.1 0 from by omega) (show ((τ_82.1 16 + 1)) ≤ (τ_82.1 0) from by omega) (show (σ.1 16) ≤ (τ_82.1 17) from by omega) (show (τ_82.1 17) ≤ ((τ_82.1 16 + 1)) from by omega) (show ¬ (σ.1 20) = 0 → (τ_82.1 20) = (σ.1 20) from by omega)
  have l_0 : ∀ (m_0 : Nat) (τ_0 : S0), (τ_0.1 0) - (τ_0.1 16) < (m_0 : Int) → (m_T τ_0) → (τ_0.1 0 = σ.1 0) → ((τ_0.1 16) ≤ (τ_0.1 0)) → ((σ.1 16) ≤ (τ_0.1 16)) → ((τ_0.1 20) = (σ.1 20)) → P0 τ_0 := by
    intro m_0
    induction m_0 with
    | zero =>
      intro τ_0 hm hT W0 i0_1 i0_2 i0_3
      have v0 : 0 ≤ τ_0.1 0 ∧ τ_0.1 0 ≤ 60000 := hT.1 0
      have v16 : 0 ≤ τ_0.1 16 ∧ τ_0.1 16 ≤ 60000 := hT.1 16
      have v17 : 0 ≤ τ_0.1 17 ∧ τ_0.1 17 ≤ 60000 := hT.1 17
      have v18 : 0 ≤ τ_0.1 18 ∧ τ_0.1 18 ≤ 60000 := hT.1 18
      have v20 : 0 ≤ τ_0.1 20 ∧ τ_0.1 20 ≤ 19 := hT.1 20
      exfalso; omega
    | succ m_0 ih_0 =>
      intro τ_0 hm_0 hT W0 i0_1 i0_2 i0_3
      have v0 : 0 ≤ τ_0.1 0 ∧ τ_0.1 0 ≤ 60000 := hT.1 0
      have v16 : 0 ≤ τ_0.1 16 ∧ τ_0.1 16 ≤ 60000 := hT.1 16
      have v17 : 0 ≤ τ_0.1 17 ∧ τ_0.1 17 ≤ 60000 := hT.1 17
      have v18 : 0 ≤ τ_0.1 18 ∧ τ_0.1 18 ≤ 60000 := hT.1 18
      have v20 : 0 ≤ τ_0.1 20 ∧ τ_0.1 20 ≤ 19 := hT.1 20
      refine h0 _ ?_
      refine ⟨fun c1 => ?_, fun c1 => ?_⟩
      ·
        refine h39 _ ?_
        replace hT := mT_v (i := 17) hT (show 0 ≤ (τ_0.1 16) ∧ (τ_0.1 16) ≤ 60000 from by omega)
        refine ⟨fun c9 => ?_, fun c9 => ?_⟩
        ·
          exact l_82 (((τ_0.1 0) - (τ_0.1 16) : Int).toNat + 1) _ (show ((τ_0.1 0) - (τ_0.1 16) : Int) < ((((τ_0.1 0) - (τ_0.1 16) : Int).toNat + 1 : Nat) : Int) from by (omega)) hT (show τ_0.1 0 = σ.1 0 from by omega) (show (τ_0.1 16) ≤ (τ_0.1 0) from by omega) (show (σ.1 16) ≤ ((τ_0.1 16)) from by omega) (show ((τ_0.1 16)) ≤ (τ_0.1 16) from by omega) (show ¬ (σ.1 20) = 0 → (τ_0.1 20) = (σ.1 20) from by omega)
        ·
          refine ⟨(show 0 ≤ τ_0.1 16 ∧ τ_0.1 16 < 60000 from by omega), ?_⟩
          intro x11 r_x11 e_x11
          have b_x11 : 0 ≤ x11 ∧ x11 ≤ 255 := by rw [e_x11]; exact hT.2 0 _
          refine ⟨_, K_X13_isSign hT, ?_⟩
          intro x13 r_x13 hq
          have q12_1 := hq
          replace q12_1 : 0 ≤ x13 ∧ x13 ≤ 1 := q12_1
          refine ⟨fun c15 => ?_, fun c15 => ?_⟩
          ·
            exact l_82 (((τ_0.1 0) - (τ_0.1 16) : Int).toNat + 1) _ (show ((τ_0.1 0) - (τ_0.1 16) : Int) < ((((τ_0.1 0) - (τ_0.1 16) : Int).toNat + 1 : Nat) : Int) from by (omega)) hT (show τ_0.1 0 = σ.1 0 from by omega) (show (τ_0.1 16) ≤ (τ_0.1 0) from by omega) (show (σ.1 16) ≤ ((τ_0.1 16)) from by omega) (show ((τ_0.1 16)) ≤ (τ_0.1 16) from by omega) (show ¬ (σ.1 20) = 0 → (τ_0.1 20) = (σ.1 20) from by omega)
          ·
            refine ⟨_, K_X13_fail hT (show 0 ≤ 1 from by omega) (show 1 ≤ 19 from by omega) (show -1 ≤ (τ_0.1 16) from by omega) (show (τ_0.1 16) ≤ 60000 from by omega), ?_⟩
            intro τ18 hn_τ18 hf_τ18 hq
            obtain ⟨hT, q16_1, q16_2⟩ := hq
            replace q16_1 : ¬ (τ_0.1 20) = 0 → (τ18.1 20) = (τ_0.1 20) := q16_1
            replace q16_2 : (τ_0.1 20) = 0 → (τ18.1 20) = 1 := q16_2
            have w0_τ18 : τ18.1 0 = τ_0.1 0 := hf_τ18.1 0 (by decide)
            have w16_τ18 : τ18.1 16 = τ_0.1 16 := hf_τ18.1 16 (by decide)
            have w17_τ18 : τ18.1 17 = τ_0.1 16 := hf_τ18.1 17 (by decide)
            have w18_τ18 : τ18.1 18 = τ_0.1 18 := hf_τ18.1 18 (by decide)
            have W0 : τ18.1 0 = σ.1 0 := by omega
            have v0 : 0 ≤ τ18.1 0 ∧ τ18.1 0 ≤ 60000 := hT.1 0
            have v16 : 0 ≤ τ18.1 16 ∧ τ18.1 16 ≤ 60000 := hT.1 16
            have v17 : 0 ≤ τ18.1 17 ∧ τ18.1 17 ≤ 60000 := hT.1 17
            have v18 : 0 ≤ τ18.1 18 ∧ τ18.1 18 ≤ 60000 := hT.1 18
            have v20 : 0 ≤ τ18.1 20 ∧ τ18.1 20 ≤ 19 := hT.1 20
            exact l_82 (((τ18.1 0) - (τ18.1 16) : Int).toNat + 1) _ (show ((τ18.1 0) - (τ18.1 16) : Int) < ((((τ18.1 0) - (τ18.1 16) : Int).toNat + 1 : Nat) : Int) from by (omega)) hT (show τ18.1 0 = σ.1 0 from by omega) (show (τ18.1 16) ≤ (τ18.1 0) from by omega) (show (σ.1 16) ≤ (τ18.1 17) from by omega) (show (τ18.1 17) ≤ (τ18.1 16) from by omega) (show ¬ (σ.1 20) = 0 → (τ18.1 20) = (σ.1 20) from by omega)
      ·
        refine ⟨(show 0 ≤ τ_0.1 16 ∧ τ_0.1 16 < 60000 from by omega), ?_⟩
        intro x3 r_x3 e_x3
        have b_x3 : 0 ≤ x3 ∧ x3 ≤ 255 := by rw [e_x3]; exact hT.2 0 _
        refine ⟨_, K_X13_isBlank hT, ?_⟩
        intro x5 r_x5 hq
        have q4_1 := hq
        replace q4_1 : 0 ≤ x5 ∧ x5 ≤ 1 := q4_1
        refine ⟨fun c7 => ?_, fun c7 => ?_⟩
        ·
          refine h39 _ ?_
          replace hT := mT_v (i := 17) hT (show 0 ≤ (τ_0.1 16) ∧ (τ_0.1 16) ≤ 60000 from by omega)
          refine ⟨fun c9 => ?_, fun c9 => ?_⟩
          ·
            exact l_82 (((τ_0.1 0) - (τ_0.1 16) : Int).toNat + 1) _ (show ((τ_0.1 0) - (τ_0.1 16) : Int) < ((((τ_0.1 0) - (τ_0.1 16) : Int).toNat + 1 : Nat) : Int) from by (omega)) hT (show τ_0.1 0 = σ.1 0 from by omega) (show (τ_0.1 16) ≤ (τ_0.1 0) from by omega) (show (σ.1 16) ≤ ((τ_0.1 16)) from by omega) (show ((τ_0.1 16)) ≤ (τ_0.1 16) from by omega) (show ¬ (σ.1 20) = 0 → (τ_0.1 20) = (σ.1 20) from by omega)
          ·
            refine ⟨(show 0 ≤ τ_0.1 16 ∧ τ_0.1 16 < 60000 from by omega), ?_⟩
            intro x11 r_x11 e_x11
            have b_x11 : 0 ≤ x11 ∧ x11 ≤ 255 := by rw [e_x11]; exact hT.2 0 _
            refine ⟨_, K_X13_isSign hT, ?_⟩
            intro x13 r_x13 hq
            have q12_1 := hq
            replace q12_1 : 0 ≤ x13 ∧ x13 ≤ 1 := q12_1
            refine ⟨fun c15 => ?_, fun c15 => ?_⟩
            ·
              exact l_82 (((τ_0.1 0) - (τ_0.1 16) : Int).toNat + 1) _ (show ((τ_0.1 0) - (τ_0.1 16) : Int) < ((((τ_0.1 0) - (τ_0.1 16) : Int).toNat + 1 : Nat) : Int) from by (omega)) hT (show τ_0.1 0 = σ.1 0 from by omega) (show (τ_0.1 16) ≤ (τ_0.1 0) from by omega) (show (σ.1 16) ≤ ((τ_0.1 16)) from by omega) (show ((τ_0.1 16)) ≤ (τ_0.1 16) from by omega) (show ¬ (σ.1 20) = 0 → (τ_0.1 20) = (σ.1 20) from by omega)
            ·
              refine ⟨_, K_X13_fail hT (show 0 ≤ 1 from by omega) (show 1 ≤ 19 from by omega) (show -1 ≤ (τ_0.1 16) from by omega) (show (τ_0.1 16) ≤ 60000 from by omega), ?_⟩
              intro τ18 hn_τ18 hf_τ18 hq
              obtain ⟨hT, q16_1, q16_2⟩ := hq
              replace q16_1 : ¬ (τ_0.1 20) = 0 → (τ18.1 20) = (τ_0.1 20) := q16_1
              replace q16_2 : (τ_0.1 20) = 0 → (τ18.1 20) = 1 := q16_2
              have w0_τ18 : τ18.1 0 = τ_0.1 0 := hf_τ18.1 0 (by decide)
              have w16_τ18 : τ18.1 16 = τ_0.1 16 := hf_τ18.1 16 (by decide)
              have w17_τ18 : τ18.1 17 = τ_0.1 16 := hf_τ18.1 17 (by decide)
              have w18_τ18 : τ18.1 18 = τ_0.1 18 := hf_τ18.1 18 (by decide)
              have W0 : τ18.1 0 = σ.1 0 := by omega
              have v0 : 0 ≤ τ18.1 0 ∧ τ18.1 0 ≤ 60000 := hT.1 0
              have v16 : 0 ≤ τ18.1 16 ∧ τ18.1 16 ≤ 60000 := hT.1 16
              have v17 : 0 ≤ τ18.1 17 ∧ τ18.1 17 ≤ 60000 := hT.1 17
              have v18 : 0 ≤ τ18.1 18 ∧ τ18.1 18 ≤ 60000 := hT.1 18
              have v20 : 0 ≤ τ18.1 20 ∧ τ18.1 20 ≤ 19 := hT.1 20
              exact l_82 (((τ18.1 0) - (τ18.1 16) : Int).toNat + 1) _ (show ((τ18.1 0) - (τ18.1 16) : Int) < ((((τ18.1 0) - (τ18.1 16) : Int).toNat + 1 : Nat) : Int) from by (omega)) hT (show τ18.1 0 = σ.1 0 from by omega) (show (τ18.1 16) ≤ (τ18.1 0) from by omega) (show (σ.1 16) ≤ (τ18.1 17) from by omega) (show (τ18.1 17) ≤ (τ18.1 16) from by omega) (show ¬ (σ.1 20) = 0 → (τ18.1 20) = (σ.1 20) from by omega)
        ·
          refine ⟨(⟨by omega, by omega⟩ : rg (τ_0.1 16 + 1)), ?_⟩
          replace hT := mT_v (i := 16) hT (show 0 ≤ (τ_0.1 16 + 1) ∧ (τ_0.1 16 + 1) ≤ 60000 from by omega)
          exact ih_0 _ (show ((τ_0.1 0) - ((τ_0.1 16 + 1)) : Int) < ((m_0 : Nat) : Int) from by (omega)) hT (show τ_0.1 0 = σ.1 0 from by omega) (show ((τ_0.1 16 + 1)) ≤ (τ_0.1 0) from by omega) (show (σ.1 16) ≤ ((τ_0.1 16 + 1)) from by omega) (show (τ_0.1 20) = (σ.1 20) from by omega)
  exact l_0 (((σ.1 0) - (σ.1 16) : Int).toNat + 1) _ (show ((σ.1 0) - (σ.1 16) : Int) < ((((σ.1 0) - (σ.1 16) : Int).toNat + 1 : Nat) : Int) from by (omega)) hT (show σ.1 0 = σ.1 0 from by omega) (show (σ.1 16) ≤ (σ.1 0) from by omega) (show (σ.1 16) ≤ (σ.1 16) from by omega) (show (σ.1 20) = (σ.1 20) from by omega)
set_option maxHeartbeats 1000000 in
theorem K_X13_isToken {n1 : Int} {σ : S0} (hT : m_T σ) (p1 : (σ.1 17) + (σ.1 18) ≤ 60000) : W_X13_isToken n1 σ (fun (x : Int) => (0 ≤ x ∧ x ≤ 1)) := by
  have v17 : 0 ≤ σ.1 17 ∧ σ.1 17 ≤ 60000 := hT.1 17
  have v18 : 0 ≤ σ.1 18 ∧ σ.1 18 ≤ 60000 := hT.1 18
  unfold W_X13_isToken
  refine ⟨fun c1 => ?_, fun c1 => ?_⟩
  ·
    exact (show 0 ≤ 0 ∧ 0 ≤ 1 from by omega)
  ·
    refine ⟨(show 0 ≤ σ.1 17 ∧ σ.1 17 < 60000 from by omega), ?_⟩
    intro x3 r_x3 e_x3
    have b_x3 : 0 ≤ x3 ∧ x3 ≤ 255 := by rw [e_x3]; exact hT.2 0 _
    refine ⟨fun c4 => ?_, fun c4 => ?_⟩
    ·
      exact (show 0 ≤ 0 ∧ 0 ≤ 1 from by omega)
    ·
      refine ⟨(show 0 ≤ (σ.1 17 + 1) ∧ (σ.1 17 + 1) < 60000 from by omega), ?_⟩
      intro x6 r_x6 e_x6
      have b_x6 : 0 ≤ x6 ∧ x6 ≤ 255 := by rw [e_x6]; exact hT.2 0 _
      refine ⟨fun c7 => ?_, fun c7 => ?_⟩
      ·
        exact (show 0 ≤ 0 ∧ 0 ≤ 1 from by omega)
      ·
        exact (show 0 ≤ 1 ∧ 1 ≤ 1 from by omega)
set_option maxHeartbeats 1000000 in
theorem K_X13_skipComment {σ : S0} (hT : m_T σ) (p1 : (σ.1 16) ≤ (σ.1 0)) (p2 : (σ.1 17) + (σ.1 18) ≤ (σ.1 0)) : W_X13_skipComment σ (fun (τ : S0) => (m_T τ) ∧ ((τ.1 16) ≤ (τ.1 0)) ∧ ((τ.1 17) + (τ.1 18) ≤ (τ.1 0)) ∧ ((σ.1 16) ≤ (τ.1 16)) ∧ (¬ (σ.1 20) = 0 → (τ.1 20) = (σ.1 20)) ∧ (¬ (τ.1 16) = (σ.1 16) ∨ ¬ (τ.1 20) = 0)) := by
  have v0 : 0 ≤ σ.1 0 ∧ σ.1 0 ≤ 60000 := hT.1 0
  have v16 : 0 ≤ σ.1 16 ∧ σ.1 16 ≤ 60000 := hT.1 16
  have v17 : 0 ≤ σ.1 17 ∧ σ.1 17 ≤ 60000 := hT.1 17
  have v18 : 0 ≤ σ.1 18 ∧ σ.1 18 ≤ 60000 := hT.1 18
  have v20 : 0 ≤ σ.1 20 ∧ σ.1 20 ≤ 19 := hT.1 20
  have W0 : σ.1 0 = σ.1 0 := rfl
  intro P2 P37 h2 h37
  have l_2 : ∀ (m_2 : Nat) (u1_2 : Int) (τ_2 : S0), 2 * ((τ_2.1 0) - (τ_2.1 16)) + u1_2 < (m_2 : Int) → (m_T τ_2) → (τ_2.1 0 = σ.1 0) → ((τ_2.1 16) ≤ (τ_2.1 0)) → ((σ.1 16) ≤ (τ_2.1 16)) → (¬ (σ.1 20) = 0 → (τ_2.1 20) = (σ.1 20)) → (0 ≤ u1_2 ∧ u1_2 ≤ 1) → ((τ_2.1 17) + (τ_2.1 18) ≤ (τ_2.1 0)) → (u1_2 = 0 → ¬ (τ_2.1 16) = (σ.1 16)) → P2 u1_2 τ_2 := by
    intro m_2
    induction m_2 with
    | zero =>
      intro u1_2 τ_2 hm hT W0 i2_1 i2_2 i2_3 i2_4 i2_5 i2_6
      have v0 : 0 ≤ τ_2.1 0 ∧ τ_2.1 0 ≤ 60000 := hT.1 0
      have v16 : 0 ≤ τ_2.1 16 ∧ τ_2.1 16 ≤ 60000 := hT.1 16
      have v17 : 0 ≤ τ_2.1 17 ∧ τ_2.1 17 ≤ 60000 := hT.1 17
      have v18 : 0 ≤ τ_2.1 18 ∧ τ_2.1 18 ≤ 60000 := hT.1 18
      have v20 : 0 ≤ τ_2.1 20 ∧ τ_2.1 20 ≤ 19 := hT.1 20
      exfalso; omega
    | succ m_2 ih_2 =>
      intro u1_2 τ_2 hm_2 hT W0 i2_1 i2_2 i2_3 i2_4 i2_5 i2_6
      have v0 : 0 ≤ τ_2.1 0 ∧ τ_2.1 0 ≤ 60000 := hT.1 0
      have v16 : 0 ≤ τ_2.1 16 ∧ τ_2.1 16 ≤ 60000 := hT.1 16
      have v17 : 0 ≤ τ_2.1 17 ∧ τ_2.1 17 ≤ 60000 := hT.1 17
      have v18 : 0 ≤ τ_2.1 18 ∧ τ_2.1 18 ≤ 60000 := hT.1 18
      have v20 : 0 ≤ τ_2.1 20 ∧ τ_2.1 20 ≤ 19 := hT.1 20
      refine h2 _ _ ?_
      refine ⟨fun c1 => ?_, fun c1 => ?_⟩
      ·
        exact ⟨hT, (show (τ_2.1 16) ≤ (τ_2.1 0) from by omega), (show (τ_2.1 17) + (τ_2.1 18) ≤ (τ_2.1 0) from by omega), (show (σ.1 16) ≤ (τ_2.1 16) from by omega), (show ¬ (σ.1 20) = 0 → (τ_2.1 20) = (σ.1 20) from by omega), (show ¬ (τ_2.1 16) = (σ.1 16) ∨ ¬ (τ_2.1 20) = 0 from by omega)⟩
      ·
        refine ⟨_, K_X13_nextRow hT (show (τ_2.1 16) ≤ (τ_2.1 0) from by omega), ?_⟩
        intro x3 τ4 r_x3 hn_τ4 hf_τ4 hq
        obtain ⟨hT, q2_1, q2_2, q2_3, q2_4, q2_5, q2_6, q2_7⟩ := hq
        replace q2_1 : 0 ≤ x3 ∧ x3 ≤ 1 := q2_1
        replace q2_2 : (τ4.1 16) ≤ (τ4.1 0) := q2_2
        replace q2_3 : (τ4.1 17) + (τ4.1 18) = (τ4.1 16) := q2_3
        replace q2_4 : ¬ x3 = 0 → 0 < (τ4.1 18) ∧ (τ4.1 20) = 0 := q2_4
        replace q2_5 : (τ_2.1 16) ≤ (τ4.1 17) := q2_5
        replace q2_6 : ¬ x3 = 0 → (τ_2.1 16) < (τ4.1 16) := q2_6
        replace q2_7 : ¬ (τ_2.1 20) = 0 → (τ4.1 20) = (τ_2.1 20) := q2_7
        have w0_τ4 : τ4.1 0 = τ_2.1 0 := hf_τ4.1 0 (by decide)
        have W0 : τ4.1 0 = σ.1 0 := by omega
        have v0 : 0 ≤ τ4.1 0 ∧ τ4.1 0 ≤ 60000 := hT.1 0
        have v16 : 0 ≤ τ4.1 16 ∧ τ4.1 16 ≤ 60000 := hT.1 16
        have v17 : 0 ≤ τ4.1 17 ∧ τ4.1 17 ≤ 60000 := hT.1 17
        have v18 : 0 ≤ τ4.1 18 ∧ τ4.1 18 ≤ 60000 := hT.1 18
        have v20 : 0 ≤ τ4.1 20 ∧ τ4.1 20 ≤ 19 := hT.1 20
        refine ⟨fun c5 => ?_, fun c5 => ?_⟩
        ·
          refine ⟨_, K_X13_isToken hT (show (τ4.1 17) + (τ4.1 18) ≤ 60000 from by omega), ?_⟩
          intro x7 r_x7 hq
          have q6_1 := hq
          replace q6_1 : 0 ≤ x7 ∧ x7 ≤ 1 := q6_1
          refine ⟨fun c9 => ?_, fun c9 => ?_⟩
          ·
            refine h37 _ _ ?_
            refine ⟨fun c13 => ?_, fun c13 => ?_⟩
            ·
              exact ih_2 _ _ (show (2 * ((τ4.1 0) - (τ4.1 16)) + 0 : Int) < ((m_2 : Nat) : Int) from by (omega)) hT (show τ4.1 0 = σ.1 0 from by omega) (show (τ4.1 16) ≤ (τ4.1 0) from by omega) (show (σ.1 16) ≤ (τ4.1 16) from by omega) (show ¬ (σ.1 20) = 0 → (τ4.1 20) = (σ.1 20) from by omega) (show 0 ≤ 0 ∧ 0 ≤ 1 from by omega) (show (τ4.1 17) + (τ4.1 18) ≤ (τ4.1 0) from by omega) (show 0 = 0 → ¬ (τ4.1 16) = (σ.1 16) from by omega)
            ·
              refine ⟨_, K_X13_hasDollar hT (show (τ4.1 17) + (τ4.1 18) ≤ 60000 from by omega), ?_⟩
              intro x15 r_x15 hq
              have q14_1 := hq
              replace q14_1 : 0 ≤ x15 ∧ x15 ≤ 1 := q14_1
              refine ⟨fun c17 => ?_, fun c17 => ?_⟩
              ·
                exact ih_2 _ _ (show (2 * ((τ4.1 0) - (τ4.1 16)) + 0 : Int) < ((m_2 : Nat) : Int) from by (omega)) hT (show τ4.1 0 = σ.1 0 from by omega) (show (τ4.1 16) ≤ (τ4.1 0) from by omega) (show (σ.1 16) ≤ (τ4.1 16) from by omega) (show ¬ (σ.1 20) = 0 → (τ4.1 20) = (σ.1 20) from by omega) (show 0 ≤ 0 ∧ 0 ≤ 1 from by omega) (show (τ4.1 17) + (τ4.1 18) ≤ (τ4.1 0) from by omega) (show 0 = 0 → ¬ (τ4.1 16) = (σ.1 16) from by omega)
              ·
                refine ⟨_, K_X13_fail hT (show 0 ≤ 2 from by omega) (show 2 ≤ 19 from by omega) (show -1 ≤ (τ4.1 17) from by omega) (show (τ4.1 17) ≤ 60000 from by omega), ?_⟩
                intro τ20 hn_τ20 hf_τ20 hq
                obtain ⟨hT, q18_1, q18_2⟩ := hq
                replace q18_1 : ¬ (τ4.1 20) = 0 → (τ20.1 20) = (τ4.1 20) := q18_1
                replace q18_2 : (τ4.1 20) = 0 → (τ20.1 20) = 2 := q18_2
                have w0_τ20 : τ20.1 0 = τ4.1 0 := hf_τ20.1 0 (by decide)
                have w16_τ20 : τ20.1 16 = τ4.1 16 := hf_τ20.1 16 (by decide)
                have w17_τ20 : τ20.1 17 = τ4.1 17 := hf_τ20.1 17 (by decide)
                have w18_τ20 : τ20.1 18 = τ4.1 18 := hf_τ20.1 18 (by decide)
                have W0 : τ20.1 0 = σ.1 0 := by omega
                have v0 : 0 ≤ τ20.1 0 ∧ τ20.1 0 ≤ 60000 := hT.1 0
                have v16 : 0 ≤ τ20.1 16 ∧ τ20.1 16 ≤ 60000 := hT.1 16
                have v17 : 0 ≤ τ20.1 17 ∧ τ20.1 17 ≤ 60000 := hT.1 17
                have v18 : 0 ≤ τ20.1 18 ∧ τ20.1 18 ≤ 60000 := hT.1 18
                have v20 : 0 ≤ τ20.1 20 ∧ τ20.1 20 ≤ 19 := hT.1 20
                exact ⟨hT, (show (τ20.1 16) ≤ (τ20.1 0) from by omega), (show (τ20.1 17) + (τ20.1 18) ≤ (τ20.1 0) from by omega), (show (σ.1 16) ≤ (τ20.1 16) from by omega), (show ¬ (σ.1 20) = 0 → (τ20.1 20) = (σ.1 20) from by omega), (show ¬ (τ20.1 16) = (σ.1 16) ∨ ¬ (τ20.1 20) = 0 from by omega)⟩
          ·
            refine h37 _ _ ?_
            refine ⟨fun c13 => ?_, fun c13 => ?_⟩
            ·
              exact ih_2 _ _ (show (2 * ((τ4.1 0) - (τ4.1 16)) + 1 : Int) < ((m_2 : Nat) : Int) from by (omega)) hT (show τ4.1 0 = σ.1 0 from by omega) (show (τ4.1 16) ≤ (τ4.1 0) from by omega) (show (σ.1 16) ≤ (τ4.1 16) from by omega) (show ¬ (σ.1 20) = 0 → (τ4.1 20) = (σ.1 20) from by omega) (show 0 ≤ 1 ∧ 1 ≤ 1 from by omega) (show (τ4.1 17) + (τ4.1 18) ≤ (τ4.1 0) from by omega) (show 1 = 0 → ¬ (τ4.1 16) = (σ.1 16) from by omega)
            ·
              refine ⟨_, K_X13_hasDollar hT (show (τ4.1 17) + (τ4.1 18) ≤ 60000 from by omega), ?_⟩
              intro x15 r_x15 hq
              have q14_1 := hq
              replace q14_1 : 0 ≤ x15 ∧ x15 ≤ 1 := q14_1
              refine ⟨fun c17 => ?_, fun c17 => ?_⟩
              ·
                exact ih_2 _ _ (show (2 * ((τ4.1 0) - (τ4.1 16)) + 1 : Int) < ((m_2 : Nat) : Int) from by (omega)) hT (show τ4.1 0 = σ.1 0 from by omega) (show (τ4.1 16) ≤ (τ4.1 0) from by omega) (show (σ.1 16) ≤ (τ4.1 16) from by omega) (show ¬ (σ.1 20) = 0 → (τ4.1 20) = (σ.1 20) from by omega) (show 0 ≤ 1 ∧ 1 ≤ 1 from by omega) (show (τ4.1 17) + (τ4.1 18) ≤ (τ4.1 0) from by omega) (show 1 = 0 → ¬ (τ4.1 16) = (σ.1 16) from by omega)
              ·
                refine ⟨_, K_X13_fail hT (show 0 ≤ 2 from by omega) (show 2 ≤ 19 from by omega) (show -1 ≤ (τ4.1 17) from by omega) (show (τ4.1 17) ≤ 60000 from by omega), ?_⟩
                intro τ20 hn_τ20 hf_τ20 hq
                obtain ⟨hT, q18_1, q18_2⟩ := hq
                replace q18_1 : ¬ (τ4.1 20) = 0 → (τ20.1 20) = (τ4.1 20) := q18_1
                replace q18_2 : (τ4.1 20) = 0 → (τ20.1 20) = 2 := q18_2
                have w0_τ20 : τ20.1 0 = τ4.1 0 := hf_τ20.1 0 (by decide)
                have w16_τ20 : τ20.1 16 = τ4.1 16 := hf_τ20.1 16 (by decide)
                have w17_τ20 : τ20.1 17 = τ4.1 17 := hf_τ20.1 17 (by decide)
                have w18_τ20 : τ20.1 18 = τ4.1 18 := hf_τ20.1 18 (by decide)
                have W0 : τ20.1 0 = σ.1 0 := by omega
                have v0 : 0 ≤ τ20.1 0 ∧ τ20.1 0 ≤ 60000 := hT.1 0
                have v16 : 0 ≤ τ20.1 16 ∧ τ20.1 16 ≤ 60000 := hT.1 16
                have v17 : 0 ≤ τ20.1 17 ∧ τ20.1 17 ≤ 60000 := hT.1 17
                have v18 : 0 ≤ τ20.1 18 ∧ τ20.1 18 ≤ 60000 := hT.1 18
                have v20 : 0 ≤ τ20.1 20 ∧ τ20.1 20 ≤ 19 := hT.1 20
                exact ⟨hT, (show (τ20.1 16) ≤ (τ20.1 0) from by omega), (show (τ20.1 17) + (τ20.1 18) ≤ (τ20.1 0) from by omega), (show (σ.1 16) ≤ (τ20.1 16) from by omega), (show ¬ (σ.1 20) = 0 → (τ20.1 20) = (σ.1 20) from by omega), (show ¬ (τ20.1 16) = (σ.1 16) ∨ ¬ (τ20.1 20) = 0 from by omega)⟩
        ·
          refine ⟨_, K_X13_fail hT (show 0 ≤ 2 from by omega) (show 2 ≤ 19 from by omega) (show -1 ≤ (τ4.1 0) from by omega) (show (τ4.1 0) ≤ 60000 from by omega), ?_⟩
          intro τ12 hn_τ12 hf_τ12 hq
          obtain ⟨hT, q10_1, q10_2⟩ := hq
          replace q10_1 : ¬ (τ4.1 20) = 0 → (τ12.1 20) = (τ4.1 20) := q10_1
          replace q10_2 : (τ4.1 20) = 0 → (τ12.1 20) = 2 := q10_2
          have w0_τ12 : τ12.1 0 = τ4.1 0 := hf_τ12.1 0 (by decide)
          have w16_τ12 : τ12.1 16 = τ4.1 16 := hf_τ12.1 16 (by decide)
          have w17_τ12 : τ12.1 17 = τ4.1 17 := hf_τ12.1 17 (by decide)
          have w18_τ12 : τ12.1 18 = τ4.1 18 := hf_τ12.1 18 (by decide)
          have W0 : τ12.1 0 = σ.1 0 := by omega
          have v0 : 0 ≤ τ12.1 0 ∧ τ12.1 0 ≤ 60000 := hT.1 0
          have v16 : 0 ≤ τ12.1 16 ∧ τ12.1 16 ≤ 60000 := hT.1 16
          have v17 : 0 ≤ τ12.1 17 ∧ τ12.1 17 ≤ 60000 := hT.1 17
          have v18 : 0 ≤ τ12.1 18 ∧ τ12.1 18 ≤ 60000 := hT.1 18
          have v20 : 0 ≤ τ12.1 20 ∧ τ12.1 20 ≤ 19 := hT.1 20
          exact ⟨hT, (show (τ12.1 16) ≤ (τ12.1 0) from by omega), (show (τ12.1 17) + (τ12.1 18) ≤ (τ12.1 0) from by omega), (show (σ.1 16) ≤ (τ12.1 16) from by omega), (show ¬ (σ.1 20) = 0 → (τ12.1 20) = (σ.1 20) from by omega), (show ¬ (τ12.1 16) = (σ.1 16) ∨ ¬ (τ12.1 20) = 0 from by omega)⟩
  exact l_2 ((2 * ((σ.1 0) - (σ.1 16)) + 1 : Int).toNat + 1) _ _ (show (2 * ((σ.1 0) - (σ.1 16)) + 1 : Int) < (((2 * ((σ.1 0) - (σ.1 16)) + 1 : Int).toNat + 1 : Nat) : Int) from by (omega)) hT (show σ.1 0 = σ.1 0 from by omega) (show (σ.1 16) ≤ (σ.1 0) from by omega) (show (σ.1 16) ≤ (σ.1 16) from by omega) (show ¬ (σ.1 20) = 0 → (σ.1 20) = (σ.1 20) from by omega) (show 0 ≤ 1 ∧ 1 ≤ 1 from by omega) (show (σ.1 17) + (σ.1 18) ≤ (σ.1 0) from by omega) (show 1 = 0 → ¬ (σ.1 16) = (σ.1 16) from by omega)
set_option maxHeartbeats 1000000 in
theorem K_X13_isKnown {n0 : Int} {σ : S0} (hT : m_T σ) : W_X13_isKnown n0 σ (fun (x : Int) => (0 ≤ x ∧ x ≤ 1) ∧ (¬ x = 0 → 46 ≤ n0 ∧ n0 ≤ 125)) := by
  unfold W_X13_isKnown
  refine ⟨fun c1 => ?_, fun c1 => ?_⟩
  ·
    exact ⟨(show 0 ≤ 1 ∧ 1 ≤ 1 from by omega), (show ¬ 1 = 0 → 46 ≤ n0 ∧ n0 ≤ 125 from by omega)⟩
  ·
    refine ⟨fun c2 => ?_, fun c2 => ?_⟩
    ·
      exact ⟨(show 0 ≤ 1 ∧ 1 ≤ 1 from by omega), (show ¬ 1 = 0 → 46 ≤ n0 ∧ n0 ≤ 125 from by omega)⟩
    ·
      refine ⟨fun c3 => ?_, fun c3 => ?_⟩
      ·
        exact ⟨(show 0 ≤ 1 ∧ 1 ≤ 1 from by omega), (show ¬ 1 = 0 → 46 ≤ n0 ∧ n0 ≤ 125 from by omega)⟩
      ·
        refine ⟨fun c4 => ?_, fun c4 => ?_⟩
        ·
          exact ⟨(show 0 ≤ 1 ∧ 1 ≤ 1 from by omega), (show ¬ 1 = 0 → 46 ≤ n0 ∧ n0 ≤ 125 from by omega)⟩
        ·
          refine ⟨fun c5 => ?_, fun c5 => ?_⟩
          ·
            exact ⟨(show 0 ≤ 1 ∧ 1 ≤ 1 from by omega), (show ¬ 1 = 0 → 46 ≤ n0 ∧ n0 ≤ 125 from by omega)⟩
          ·
            refine ⟨fun c6 => ?_, fun c6 => ?_⟩
            ·
              exact ⟨(show 0 ≤ 1 ∧ 1 ≤ 1 from by omega), (show ¬ 1 = 0 → 46 ≤ n0 ∧ n0 ≤ 125 from by omega)⟩
            ·
              refine ⟨fun c7 => ?_, fun c7 => ?_⟩
              ·
                exact ⟨(show 0 ≤ 1 ∧ 1 ≤ 1 from by omega), (show ¬ 1 = 0 → 46 ≤ n0 ∧ n0 ≤ 125 from by omega)⟩
              ·
                refine ⟨fun c8 => ?_, fun c8 => ?_⟩
                ·
                  exact ⟨(show 0 ≤ 1 ∧ 1 ≤ 1 from by omega), (show ¬ 1 = 0 → 46 ≤ n0 ∧ n0 ≤ 125 from by omega)⟩
                ·
                  refine ⟨fun c9 => ?_, fun c9 => ?_⟩
                  ·
                    exact ⟨(show 0 ≤ 1 ∧ 1 ≤ 1 from by omega), (show ¬ 1 = 0 → 46 ≤ n0 ∧ n0 ≤ 125 from by omega)⟩
                  ·
                    refine ⟨fun c10 => ?_, fun c10 => ?_⟩
                    ·
                      exact ⟨(show 0 ≤ 1 ∧ 1 ≤ 1 from by omega), (show ¬ 1 = 0 → 46 ≤ n0 ∧ n0 ≤ 125 from by omega)⟩
                    ·
                      refine ⟨fun c11 => ?_, fun c11 => ?_⟩
                      ·
                        exact ⟨(show 0 ≤ 0 ∧ 0 ≤ 1 from by omega), (show ¬ 0 = 0 → 46 ≤ n0 ∧ n0 ≤ 125 from by omega)⟩
                      ·
                        exact ⟨(show 0 ≤ 1 ∧ 1 ≤ 1 from by omega), (show ¬ 1 = 0 → 46 ≤ n0 ∧ n0 ≤ 125 from by omega)⟩
set_option maxHeartbeats 1000000 in
theorem K_X13_next {σ : S0} (hT : m_T σ) (p1 : (σ.1 16) ≤ (σ.1 0)) : W_X13_next σ (fun (τ : S0) => (m_T τ) ∧ ((τ.1 16) ≤ (τ.1 0)) ∧ ((τ.1 17) + (τ.1 18) ≤ (τ.1 0)) ∧ ((σ.1 16) ≤ (τ.1 16)) ∧ (¬ (σ.1 20) = 0 → (τ.1 20) = (σ.1 20)) ∧ ((τ.1 20) = 0 → ¬ (τ.1 19) = 0 → (σ.1 16) < (τ.1 16) ∧ 0 < (τ.1 18))) := by
  have v0 : 0 ≤ σ.1 0 ∧ σ.1 0 ≤ 60000 := hT.1 0
  have v16 : 0 ≤ σ.1 16 ∧ σ.1 16 ≤ 60000 := hT.1 16
  have v17 : 0 ≤ σ.1 17 ∧ σ.1 17 ≤ 60000 := hT.1 17
  have v18 : 0 ≤ σ.1 18 ∧ σ.1 18 ≤ 60000 := hT.1 18
  have v19 : (-1) ≤ σ.1 19 ∧ σ.1 19 ≤ 125 := hT.1 19
  have v20 : 0 ≤ σ.1 20 ∧ σ.1 20 ≤ 19 := hT.1 20
  have W0 : σ.1 0 = σ.1 0 := rfl
  intro P2 P153 h2 h153
  have l_2 : ∀ (m_2 : Nat) (u1_2 : Int) (τ_2 : S0), 2 * ((τ_2.1 0) - (τ_2.1 16)) + u1_2 < (m_2 : Int) → (m_T τ_2) → (τ_2.1 0 = σ.1 0) → ((τ_2.1 16) ≤ (τ_2.1 0)) → ((σ.1 16) ≤ (τ_2.1 16)) → (¬ (σ.1 20) = 0 → (τ_2.1 20) = (σ.1 20)) → (0 ≤ u1_2 ∧ u1_2 ≤ 1) → (u1_2 = 0 → (τ_2.1 17) + (τ_2.1 18) ≤ (τ_2.1 0)) → (u1_2 = 0 → (τ_2.1 20) = 0 → (σ.1 16) < (τ_2.1 16) ∧ 0 < (τ_2.1 18)) → P2 u1_2 τ_2 := by
    intro m_2
    induction m_2 with
    | zero =>
      intro u1_2 τ_2 hm hT W0 i2_1 i2_2 i2_3 i2_4 i2_5 i2_6
      have v0 : 0 ≤ τ_2.1 0 ∧ τ_2.1 0 ≤ 60000 := hT.1 0
      have v16 : 0 ≤ τ_2.1 16 ∧ τ_2.1 16 ≤ 60000 := hT.1 16
      have v17 : 0 ≤ τ_2.1 17 ∧ τ_2.1 17 ≤ 60000 := hT.1 17
      have v18 : 0 ≤ τ_2.1 18 ∧ τ_2.1 18 ≤ 60000 := hT.1 18
      have v19 : (-1) ≤ τ_2.1 19 ∧ τ_2.1 19 ≤ 125 := hT.1 19
      have v20 : 0 ≤ τ_2.1 20 ∧ τ_2.1 20 ≤ 19 := hT.1 20
      exfalso; omega
    | succ m_2 ih_2 =>
      intro u1_2 τ_2 hm_2 hT W0 i2_1 i2_2 i2_3 i2_4 i2_5 i2_6
      have v0 : 0 ≤ τ_2.1 0 ∧ τ_2.1 0 ≤ 60000 := hT.1 0
      have v16 : 0 ≤ τ_2.1 16 ∧ τ_2.1 16 ≤ 60000 := hT.1 16
      have v17 : 0 ≤ τ_2.1 17 ∧ τ_2.1 17 ≤ 60000 := hT.1 17
      have v18 : 0 ≤ τ_2.1 18 ∧ τ_2.1 18 ≤ 60000 := hT.1 18
      have v19 : (-1) ≤ τ_2.1 19 ∧ τ_2.1 19 ≤ 125 := hT.1 19
      have v20 : 0 ≤ τ_2.1 20 ∧ τ_2.1 20 ≤ 19 := hT.1 20
      refine h2 _ _ ?_
      refine ⟨fun c1 => ?_, fun c1 => ?_⟩
      ·
        refine ⟨fun c2 => ?_, fun c2 => ?_⟩
        ·
          replace hT := mT_v (i := 19) hT (show (-1 : Int) ≤ 1 ∧ 1 ≤ 125 from by omega)
          refine ⟨_, K_X13_hasSign hT (show (τ_2.1 17) + (τ_2.1 18) ≤ 60000 from by omega), ?_⟩
          intro x4 r_x4 hq
          have q3_1 := hq
          replace q3_1 : 0 ≤ x4 ∧ x4 ≤ 1 := q3_1
          refine ⟨fun c6 => ?_, fun c6 => ?_⟩
          ·
            exact ⟨hT, (show (τ_2.1 16) ≤ (τ_2.1 0) from by omega), (show (τ_2.1 17) + (τ_2.1 18) ≤ (τ_2.1 0) from by omega), (show (σ.1 16) ≤ (τ_2.1 16) from by omega), (show ¬ (σ.1 20) = 0 → (τ_2.1 20) = (σ.1 20) from by omega), (show (τ_2.1 20) = 0 → ¬ ((1 : Int)) = 0 → (σ.1 16) < (τ_2.1 16) ∧ 0 < (τ_2.1 18) from by omega)⟩
          ·
            refine ⟨fun c7 => ?_, fun c7 => ?_⟩
            ·
              obtain ⟨τ_153, e_τ_153⟩ : ∃ z : S0, z = s_v τ_2 19 1 := ⟨_, rfl⟩
              rw [← e_τ_153]
              replace hT : m_T τ_153 := by rw [e_τ_153]; exact hT
              have w0_τ_153 : τ_153.1 0 = τ_2.1 0 := by rw [e_τ_153]; rfl
              have w16_τ_153 : τ_153.1 16 = τ_2.1 16 := by rw [e_τ_153]; rfl
              have w17_τ_153 : τ_153.1 17 = τ_2.1 17 := by rw [e_τ_153]; rfl
              have w18_τ_153 : τ_153.1 18 = τ_2.1 18 := by rw [e_τ_153]; rfl
              have w19_τ_153 : τ_153.1 19 = 1 := by rw [e_τ_153]; rfl
              have w20_τ_153 : τ_153.1 20 = τ_2.1 20 := by rw [e_τ_153]; rfl
              have W0 : τ_153.1 0 = σ.1 0 := by omega
              have v0 : 0 ≤ τ_153.1 0 ∧ τ_153.1 0 ≤ 60000 := hT.1 0
              have v16 : 0 ≤ τ_153.1 16 ∧ τ_153.1 16 ≤ 60000 := hT.1 16
              have v17 : 0 ≤ τ_153.1 17 ∧ τ_153.1 17 ≤ 60000 := hT.1 17
              have v18 : 0 ≤ τ_153.1 18 ∧ τ_153.1 18 ≤ 60000 := hT.1 18
              have v19 : (-1) ≤ τ_153.1 19 ∧ τ_153.1 19 ≤ 125 := hT.1 19
              have v20 : 0 ≤ τ_153.1 20 ∧ τ_153.1 20 ≤ 19 := hT.1 20
              refine h153 _ _ ?_
              replace hT := mT_v (i := 19) hT (show (-1 : Int) ≤ (-1) ∧ (-1) ≤ 125 from by omega)
              refine ⟨fun c37 => ?_, fun c37 => ?_⟩
              ·
                exact ⟨hT, (show (τ_153.1 16) ≤ (τ_153.1 0) from by omega), (show (τ_153.1 17) + (τ_153.1 18) ≤ (τ_153.1 0) from by omega), (show (σ.1 16) ≤ (τ_153.1 16) from by omega), (show ¬ (σ.1 20) = 0 → (τ_153.1 20) = (σ.1 20) from by omega), (show (τ_153.1 20) = 0 → ¬ ((-1)) = 0 → (σ.1 16) < (τ_153.1 16) ∧ 0 < (τ_153.1 18) from by omega)⟩
              ·
                refine ⟨_, K_X13_fail hT (show 0 ≤ 3 from by omega) (show 3 ≤ 19 from by omega) (show -1 ≤ (τ_153.1 17) from by omega) (show (τ_153.1 17) ≤ 60000 from by omega), ?_⟩
                intro τ40 hn_τ40 hf_τ40 hq
                obtain ⟨hT, q38_1, q38_2⟩ := hq
                replace q38_1 : ¬ (τ_153.1 20) = 0 → (τ40.1 20) = (τ_153.1 20) := q38_1
                replace q38_2 : (τ_153.1 20) = 0 → (τ40.1 20) = 3 := q38_2
                have w0_τ40 : τ40.1 0 = τ_153.1 0 := hf_τ40.1 0 (by decide)
                have w16_τ40 : τ40.1 16 = τ_153.1 16 := hf_τ40.1 16 (by decide)
                have w17_τ40 : τ40.1 17 = τ_153.1 17 := hf_τ40.1 17 (by decide)
                have w18_τ40 : τ40.1 18 = τ_153.1 18 := hf_τ40.1 18 (by decide)
                have w19_τ40 : τ40.1 19 = (-1) := hf_τ40.1 19 (by decide)
                have W0 : τ40.1 0 = σ.1 0 := by omega
                have v0 : 0 ≤ τ40.1 0 ∧ τ40.1 0 ≤ 60000 := hT.1 0
                have v16 : 0 ≤ τ40.1 16 ∧ τ40.1 16 ≤ 60000 := hT.1 16
                have v17 : 0 ≤ τ40.1 17 ∧ τ40.1 17 ≤ 60000 := hT.1 17
                have v18 : 0 ≤ τ40.1 18 ∧ τ40.1 18 ≤ 60000 := hT.1 18
                have v19 : (-1) ≤ τ40.1 19 ∧ τ40.1 19 ≤ 125 := hT.1 19
                have v20 : 0 ≤ τ40.1 20 ∧ τ40.1 20 ≤ 19 := hT.1 20
                exact ⟨hT, (show (τ40.1 16) ≤ (τ40.1 0) from by omega), (show (τ40.1 17) + (τ40.1 18) ≤ (τ40.1 0) from by omega), (show (σ.1 16) ≤ (τ40.1 16) from by omega), (show ¬ (σ.1 20) = 0 → (τ40.1 20) = (σ.1 20) from by omega), (show (τ40.1 20) = 0 → ¬ (τ40.1 19) = 0 → (σ.1 16) < (τ40.1 16) ∧ 0 < (τ40.1 18) from by omega)⟩
            ·
              refine ⟨(show 0 ≤ τ_2.1 17 ∧ τ_2.1 17 < 60000 from by omega), ?_⟩
              intro x9 r_x9 e_x9
              have b_x9 : 0 ≤ x9 ∧ x9 ≤ 255 := by rw [e_x9]; exact hT.2 0 _
              refine ⟨fun c10 => ?_, fun c10 => ?_⟩
              ·
                obtain ⟨τ_153, e_τ_153⟩ : ∃ z : S0, z = s_v τ_2 19 1 := ⟨_, rfl⟩
                rw [← e_τ_153]
                replace hT : m_T τ_153 := by rw [e_τ_153]; exact hT
                have w0_τ_153 : τ_153.1 0 = τ_2.1 0 := by rw [e_τ_153]; rfl
                have w16_τ_153 : τ_153.1 16 = τ_2.1 16 := by rw [e_τ_153]; rfl
                have w17_τ_153 : τ_153.1 17 = τ_2.1 17 := by rw [e_τ_153]; rfl
                have w18_τ_153 : τ_153.1 18 = τ_2.1 18 := by rw [e_τ_153]; rfl
                have w19_τ_153 : τ_153.1 19 = 1 := by rw [e_τ_153]; rfl
                have w20_τ_153 : τ_153.1 20 = τ_2.1 20 := by rw [e_τ_153]; rfl
                have W0 : τ_153.1 0 = σ.1 0 := by omega
                have v0 : 0 ≤ τ_153.1 0 ∧ τ_153.1 0 ≤ 60000 := hT.1 0
                have v16 : 0 ≤ τ_153.1 16 ∧ τ_153.1 16 ≤ 60000 := hT.1 16
                have v17 : 0 ≤ τ_153.1 17 ∧ τ_153.1 17 ≤ 60000 := hT.1 17
                have v18 : 0 ≤ τ_153.1 18 ∧ τ_153.1 18 ≤ 60000 := hT.1 18
                have v19 : (-1) ≤ τ_153.1 19 ∧ τ_153.1 19 ≤ 125 := hT.1 19
                have v20 : 0 ≤ τ_153.1 20 ∧ τ_153.1 20 ≤ 19 := hT.1 20
                refine h153 _ _ ?_
                replace hT := mT_v (i := 19) hT (show (-1 : Int) ≤ (-1) ∧ (-1) ≤ 125 from by omega)
                refine ⟨fun c37 => ?_, fun c37 => ?_⟩
                ·
                  exact ⟨hT, (show (τ_153.1 16) ≤ (τ_153.1 0) from by omega), (show (τ_153.1 17) + (τ_153.1 18) ≤ (τ_153.1 0) from by omega), (show (σ.1 16) ≤ (τ_153.1 16) from by omega), (show ¬ (σ.1 20) = 0 → (τ_153.1 20) = (σ.1 20) from by omega), (show (τ_153.1 20) = 0 → ¬ ((-1)) = 0 → (σ.1 16) < (τ_153.1 16) ∧ 0 < (τ_153.1 18) from by omega)⟩
                ·
                  refine ⟨_, K_X13_fail hT (show 0 ≤ 3 from by omega) (show 3 ≤ 19 from by omega) (show -1 ≤ (τ_153.1 17) from by omega) (show (τ_153.1 17) ≤ 60000 from by omega), ?_⟩
                  intro τ40 hn_τ40 hf_τ40 hq
                  obtain ⟨hT, q38_1, q38_2⟩ := hq
                  replace q38_1 : ¬ (τ_153.1 20) = 0 → (τ40.1 20) = (τ_153.1 20) := q38_1
                  replace q38_2 : (τ_153.1 20) = 0 → (τ40.1 20) = 3 := q38_2
                  have w0_τ40 : τ40.1 0 = τ_153.1 0 := hf_τ40.1 0 (by decide)
                  have w16_τ40 : τ40.1 16 = τ_153.1 16 := hf_τ40.1 16 (by decide)
                  have w17_τ40 : τ40.1 17 = τ_153.1 17 := hf_τ40.1 17 (by decide)
                  have w18_τ40 : τ40.1 18 = τ_153.1 18 := hf_τ40.1 18 (by decide)
                  have w19_τ40 : τ40.1 19 = (-1) := hf_τ40.1 19 (by decide)
                  have W0 : τ40.1 0 = σ.1 0 := by omega
                  have v0 : 0 ≤ τ40.1 0 ∧ τ40.1 0 ≤ 60000 := hT.1 0
                  have v16 : 0 ≤ τ40.1 16 ∧ τ40.1 16 ≤ 60000 := hT.1 16
                  have v17 : 0 ≤ τ40.1 17 ∧ τ40.1 17 ≤ 60000 := hT.1 17
                  have v18 : 0 ≤ τ40.1 18 ∧ τ40.1 18 ≤ 60000 := hT.1 18
                  have v19 : (-1) ≤ τ40.1 19 ∧ τ40.1 19 ≤ 125 := hT.1 19
                  have v20 : 0 ≤ τ40.1 20 ∧ τ40.1 20 ≤ 19 := hT.1 20
                  exact ⟨hT, (show (τ40.1 16) ≤ (τ40.1 0) from by omega), (show (τ40.1 17) + (τ40.1 18) ≤ (τ40.1 0) from by omega), (show (σ.1 16) ≤ (τ40.1 16) from by omega), (show ¬ (σ.1 20) = 0 → (τ40.1 20) = (σ.1 20) from by omega), (show (τ40.1 20) = 0 → ¬ (τ40.1 19) = 0 → (σ.1 16) < (τ40.1 16) ∧ 0 < (τ40.1 18) from by omega)⟩
              ·
                refine ⟨(show 0 ≤ (τ_2.1 17 + 1) ∧ (τ_2.1 17 + 1) < 60000 from by omega), ?_⟩
                intro x12 r_x12 e_x12
                have b_x12 : 0 ≤ x12 ∧ x12 ≤ 255 := by rw [e_x12]; exact hT.2 0 _
                refine ⟨_, K_X13_isKnown hT, ?_⟩
                intro x14 r_x14 hq
                obtain ⟨q13_1, q13_2⟩ := hq
                replace q13_1 : 0 ≤ x14 ∧ x14 ≤ 1 := q13_1
                replace q13_2 : ¬ x14 = 0 → 46 ≤ x12 ∧ x12 ≤ 125 := q13_2
                refine ⟨fun c16 => ?_, fun c16 => ?_⟩
                ·
                  obtain ⟨τ_153, e_τ_153⟩ : ∃ z : S0, z = s_v τ_2 19 1 := ⟨_, rfl⟩
                  rw [← e_τ_153]
                  replace hT : m_T τ_153 := by rw [e_τ_153]; exact hT
                  have w0_τ_153 : τ_153.1 0 = τ_2.1 0 := by rw [e_τ_153]; rfl
                  have w16_τ_153 : τ_153.1 16 = τ_2.1 16 := by rw [e_τ_153]; rfl
                  have w17_τ_153 : τ_153.1 17 = τ_2.1 17 := by rw [e_τ_153]; rfl
                  have w18_τ_153 : τ_153.1 18 = τ_2.1 18 := by rw [e_τ_153]; rfl
                  have w19_τ_153 : τ_153.1 19 = 1 := by rw [e_τ_153]; rfl
                  have w20_τ_153 : τ_153.1 20 = τ_2.1 20 := by rw [e_τ_153]; rfl
                  have W0 : τ_153.1 0 = σ.1 0 := by omega
                  have v0 : 0 ≤ τ_153.1 0 ∧ τ_153.1 0 ≤ 60000 := hT.1 0
                  have v16 : 0 ≤ τ_153.1 16 ∧ τ_153.1 16 ≤ 60000 := hT.1 16
                  have v17 : 0 ≤ τ_153.1 17 ∧ τ_153.1 17 ≤ 60000 := hT.1 17
                  have v18 : 0 ≤ τ_153.1 18 ∧ τ_153.1 18 ≤ 60000 := hT.1 18
                  have v19 : (-1) ≤ τ_153.1 19 ∧ τ_153.1 19 ≤ 125 := hT.1 19
                  have v20 : 0 ≤ τ_153.1 20 ∧ τ_153.1 20 ≤ 19 := hT.1 20
                  refine h153 _ _ ?_
                  replace hT := mT_v (i := 19) hT (show (-1 : Int) ≤ (-1) ∧ (-1) ≤ 125 from by omega)
                  refine ⟨fun c37 => ?_, fun c37 => ?_⟩
                  ·
                    exact ⟨hT, (show (τ_153.1 16) ≤ (τ_153.1 0) from by omega), (show (τ_153.1 17) + (τ_153.1 18) ≤ (τ_153.1 0) from by omega), (show (σ.1 16) ≤ (τ_153.1 16) from by omega), (show ¬ (σ.1 20) = 0 → (τ_153.1 20) = (σ.1 20) from by omega), (show (τ_153.1 20) = 0 → ¬ ((-1)) = 0 → (σ.1 16) < (τ_153.1 16) ∧ 0 < (τ_153.1 18) from by omega)⟩
                  ·
                    refine ⟨_, K_X13_fail hT (show 0 ≤ 3 from by omega) (show 3 ≤ 19 from by omega) (show -1 ≤ (τ_153.1 17) from by omega) (show (τ_153.1 17) ≤ 60000 from by omega), ?_⟩
                    intro τ40 hn_τ40 hf_τ40 hq
                    obtain ⟨hT, q38_1, q38_2⟩ := hq
                    replace q38_1 : ¬ (τ_153.1 20) = 0 → (τ40.1 20) = (τ_153.1 20) := q38_1
                    replace q38_2 : (τ_153.1 20) = 0 → (τ40.1 20) = 3 := q38_2
                    have w0_τ40 : τ40.1 0 = τ_153.1 0 := hf_τ40.1 0 (by decide)
                    have w16_τ40 : τ40.1 16 = τ_153.1 16 := hf_τ40.1 16 (by decide)
                    have w17_τ40 : τ40.1 17 = τ_153.1 17 := hf_τ40.1 17 (by decide)
                    have w18_τ40 : τ40.1 18 = τ_153.1 18 := hf_τ40.1 18 (by decide)
                    have w19_τ40 : τ40.1 19 = (-1) := hf_τ40.1 19 (by decide)
                    have W0 : τ40.1 0 = σ.1 0 := by omega
                    have v0 : 0 ≤ τ40.1 0 ∧ τ40.1 0 ≤ 60000 := hT.1 0
                    have v16 : 0 ≤ τ40.1 16 ∧ τ40.1 16 ≤ 60000 := hT.1 16
                    have v17 : 0 ≤ τ40.1 17 ∧ τ40.1 17 ≤ 60000 := hT.1 17
                    have v18 : 0 ≤ τ40.1 18 ∧ τ40.1 18 ≤ 60000 := hT.1 18
                    have v19 : (-1) ≤ τ40.1 19 ∧ τ40.1 19 ≤ 125 := hT.1 19
                    have v20 : 0 ≤ τ40.1 20 ∧ τ40.1 20 ≤ 19 := hT.1 20
                    exact ⟨hT, (show (τ40.1 16) ≤ (τ40.1 0) from by omega), (show (τ40.1 17) + (τ40.1 18) ≤ (τ40.1 0) from by omega), (show (σ.1 16) ≤ (τ40.1 16) from by omega), (show ¬ (σ.1 20) = 0 → (τ40.1 20) = (σ.1 20) from by omega), (show (τ40.1 20) = 0 → ¬ (τ40.1 19) = 0 → (σ.1 16) < (τ40.1 16) ∧ 0 < (τ40.1 18) from by omega)⟩
                ·
                  intro x17 r_x17 e_x17
                  have b_x17 : 0 ≤ x17 ∧ x17 ≤ 255 := by rw [e_x17]; exact hT.2 0 _
                  obtain ⟨τ_153, e_τ_153⟩ : ∃ z : S0, z = s_v τ_2 19 1 := ⟨_, rfl⟩
                  rw [← e_τ_153]
                  replace hT : m_T τ_153 := by rw [e_τ_153]; exact hT
                  have w0_τ_153 : τ_153.1 0 = τ_2.1 0 := by rw [e_τ_153]; rfl
                  have w16_τ_153 : τ_153.1 16 = τ_2.1 16 := by rw [e_τ_153]; rfl
                  have w17_τ_153 : τ_153.1 17 = τ_2.1 17 := by rw [e_τ_153]; rfl
                  have w18_τ_153 : τ_153.1 18 = τ_2.1 18 := by rw [e_τ_153]; rfl
                  have w19_τ_153 : τ_153.1 19 = 1 := by rw [e_τ_153]; rfl
                  have w20_τ_153 : τ_153.1 20 = τ_2.1 20 := by rw [e_τ_153]; rfl
                  have W0 : τ_153.1 0 = σ.1 0 := by omega
                  have v0 : 0 ≤ τ_153.1 0 ∧ τ_153.1 0 ≤ 60000 := hT.1 0
                  have v16 : 0 ≤ τ_153.1 16 ∧ τ_153.1 16 ≤ 60000 := hT.1 16
                  have v17 : 0 ≤ τ_153.1 17 ∧ τ_153.1 17 ≤ 60000 := hT.1 17
                  have v18 : 0 ≤ τ_153.1 18 ∧ τ_153.1 18 ≤ 60000 := hT.1 18
                  have v19 : (-1) ≤ τ_153.1 19 ∧ τ_153.1 19 ≤ 125 := hT.1 19
                  have v20 : 0 ≤ τ_153.1 20 ∧ τ_153.1 20 ≤ 19 := hT.1 20
                  refine h153 _ _ ?_
                  replace hT := mT_v (i := 19) hT (show (-1) ≤ x17 ∧ x17 ≤ 125 from by omega)
                  refine ⟨fun c37 => ?_, fun c37 => ?_⟩
                  ·
                    exact ⟨hT, (show (τ_153.1 16) ≤ (τ_153.1 0) from by omega), (show (τ_153.1 17) + (τ_153.1 18) ≤ (τ_153.1 0) from by omega), (show (σ.1 16) ≤ (τ_153.1 16) from by omega), (show ¬ (σ.1 20) = 0 → (τ_153.1 20) = (σ.1 20) from by omega), (show (τ_153.1 20) = 0 → ¬ (x17) = 0 → (σ.1 16) < (τ_153.1 16) ∧ 0 < (τ_153.1 18) from by omega)⟩
                  ·
                    refine ⟨_, K_X13_fail hT (show 0 ≤ 3 from by omega) (show 3 ≤ 19 from by omega) (show -1 ≤ (τ_153.1 17) from by omega) (show (τ_153.1 17) ≤ 60000 from by omega), ?_⟩
                    intro τ40 hn_τ40 hf_τ40 hq
                    obtain ⟨hT, q38_1, q38_2⟩ := hq
                    replace q38_1 : ¬ (τ_153.1 20) = 0 → (τ40.1 20) = (τ_153.1 20) := q38_1
                    replace q38_2 : (τ_153.1 20) = 0 → (τ40.1 20) = 3 := q38_2
                    have w0_τ40 : τ40.1 0 = τ_153.1 0 := hf_τ40.1 0 (by decide)
                    have w16_τ40 : τ40.1 16 = τ_153.1 16 := hf_τ40.1 16 (by decide)
                    have w17_τ40 : τ40.1 17 = τ_153.1 17 := hf_τ40.1 17 (by decide)
                    have w18_τ40 : τ40.1 18 = τ_153.1 18 := hf_τ40.1 18 (by decide)
                    have w19_τ40 : τ40.1 19 = x17 := hf_τ40.1 19 (by decide)
                    have W0 : τ40.1 0 = σ.1 0 := by omega
                    have v0 : 0 ≤ τ40.1 0 ∧ τ40.1 0 ≤ 60000 := hT.1 0
                    have v16 : 0 ≤ τ40.1 16 ∧ τ40.1 16 ≤ 60000 := hT.1 16
                    have v17 : 0 ≤ τ40.1 17 ∧ τ40.1 17 ≤ 60000 := hT.1 17
                    have v18 : 0 ≤ τ40.1 18 ∧ τ40.1 18 ≤ 60000 := hT.1 18
                    have v19 : (-1) ≤ τ40.1 19 ∧ τ40.1 19 ≤ 125 := hT.1 19
                    have v20 : 0 ≤ τ40.1 20 ∧ τ40.1 20 ≤ 19 := hT.1 20
                    exact ⟨hT, (show (τ40.1 16) ≤ (τ40.1 0) from by omega), (show (τ40.1 17) + (τ40.1 18) ≤ (τ40.1 0) from by omega), (show (σ.1 16) ≤ (τ40.1 16) from by omega), (show ¬ (σ.1 20) = 0 → (τ40.1 20) = (σ.1 20) from by omega), (show (τ40.1 20) = 0 → ¬ (τ40.1 19) = 0 → (σ.1 16) < (τ40.1 16) ∧ 0 < (τ40.1 18) from by omega)⟩
        ·
          replace hT := mT_v (i := 19) hT (show (-1 : Int) ≤ 0 ∧ 0 ≤ 125 from by omega)
          exact ⟨hT, (show (τ_2.1 16) ≤ (τ_2.1 0) from by omega), (show (τ_2.1 17) + (τ_2.1 18) ≤ (τ_2.1 0) from by omega), (show (σ.1 16) ≤ (τ_2.1 16) from by omega), (show ¬ (σ.1 20) = 0 → (τ_2.1 20) = (σ.1 20) from by omega), (show (τ_2.1 20) = 0 → ¬ ((0 : Int)) = 0 → (σ.1 16) < (τ_2.1 16) ∧ 0 < (τ_2.1 18) from by omega)⟩
      ·
        refine ⟨_, K_X13_nextRow hT (show (τ_2.1 16) ≤ (τ_2.1 0) from by omega), ?_⟩
        intro x19 τ20 r_x19 hn_τ20 hf_τ20 hq
        obtain ⟨hT, q18_1, q18_2, q18_3, q18_4, q18_5, q18_6, q18_7⟩ := hq
        replace q18_1 : 0 ≤ x19 ∧ x19 ≤ 1 := q18_1
        replace q18_2 : (τ20.1 16) ≤ (τ20.1 0) := q18_2
        replace q18_3 : (τ20.1 17) + (τ20.1 18) = (τ20.1 16) := q18_3
        replace q18_4 : ¬ x19 = 0 → 0 < (τ20.1 18) ∧ (τ20.1 20) = 0 := q18_4
        replace q18_5 : (τ_2.1 16) ≤ (τ20.1 17) := q18_5
        replace q18_6 : ¬ x19 = 0 → (τ_2.1 16) < (τ20.1 16) := q18_6
        replace q18_7 : ¬ (τ_2.1 20) = 0 → (τ20.1 20) = (τ_2.1 20) := q18_7
        have w0_τ20 : τ20.1 0 = τ_2.1 0 := hf_τ20.1 0 (by decide)
        have w19_τ20 : τ20.1 19 = τ_2.1 19 := hf_τ20.1 19 (by decide)
        have W0 : τ20.1 0 = σ.1 0 := by omega
        have v0 : 0 ≤ τ20.1 0 ∧ τ20.1 0 ≤ 60000 := hT.1 0
        have v16 : 0 ≤ τ20.1 16 ∧ τ20.1 16 ≤ 60000 := hT.1 16
        have v17 : 0 ≤ τ20.1 17 ∧ τ20.1 17 ≤ 60000 := hT.1 17
        have v18 : 0 ≤ τ20.1 18 ∧ τ20.1 18 ≤ 60000 := hT.1 18
        have v19 : (-1) ≤ τ20.1 19 ∧ τ20.1 19 ≤ 125 := hT.1 19
        have v20 : 0 ≤ τ20.1 20 ∧ τ20.1 20 ≤ 19 := hT.1 20
        refine ⟨fun c21 => ?_, fun c21 => ?_⟩
        ·
          refine ⟨_, K_X13_isToken hT (show (τ20.1 17) + (τ20.1 18) ≤ 60000 from by omega), ?_⟩
          intro x23 r_x23 hq
          have q22_1 := hq
          replace q22_1 : 0 ≤ x23 ∧ x23 ≤ 1 := q22_1
          refine ⟨fun c25 => ?_, fun c25 => ?_⟩
          ·
            refine ⟨_, K_X13_isToken hT (show (τ20.1 17) + (τ20.1 18) ≤ 60000 from by omega), ?_⟩
            intro x27 r_x27 hq
            have q26_1 := hq
            replace q26_1 : 0 ≤ x27 ∧ x27 ≤ 1 := q26_1
            refine ⟨fun c29 => ?_, fun c29 => ?_⟩
            ·
              exact ih_2 _ _ (show (2 * ((τ20.1 0) - (τ20.1 16)) + 0 : Int) < ((m_2 : Nat) : Int) from by (omega)) hT (show τ20.1 0 = σ.1 0 from by omega) (show (τ20.1 16) ≤ (τ20.1 0) from by omega) (show (σ.1 16) ≤ (τ20.1 16) from by omega) (show ¬ (σ.1 20) = 0 → (τ20.1 20) = (σ.1 20) from by omega) (show 0 ≤ 0 ∧ 0 ≤ 1 from by omega) (show 0 = 0 → (τ20.1 17) + (τ20.1 18) ≤ (τ20.1 0) from by omega) (show 0 = 0 → (τ20.1 20) = 0 → (σ.1 16) < (τ20.1 16) ∧ 0 < (τ20.1 18) from by omega)
            ·
              refine ⟨_, K_X13_fail hT (show 0 ≤ 2 from by omega) (show 2 ≤ 19 from by omega) (show -1 ≤ (τ20.1 17) from by omega) (show (τ20.1 17) ≤ 60000 from by omega), ?_⟩
              intro τ32 hn_τ32 hf_τ32 hq
              obtain ⟨hT, q30_1, q30_2⟩ := hq
              replace q30_1 : ¬ (τ20.1 20) = 0 → (τ32.1 20) = (τ20.1 20) := q30_1
              replace q30_2 : (τ20.1 20) = 0 → (τ32.1 20) = 2 := q30_2
              have w0_τ32 : τ32.1 0 = τ20.1 0 := hf_τ32.1 0 (by decide)
              have w16_τ32 : τ32.1 16 = τ20.1 16 := hf_τ32.1 16 (by decide)
              have w17_τ32 : τ32.1 17 = τ20.1 17 := hf_τ32.1 17 (by decide)
              have w18_τ32 : τ32.1 18 = τ20.1 18 := hf_τ32.1 18 (by decide)
              have w19_τ32 : τ32.1 19 = τ20.1 19 := hf_τ32.1 19 (by decide)
              have W0 : τ32.1 0 = σ.1 0 := by omega
              have v0 : 0 ≤ τ32.1 0 ∧ τ32.1 0 ≤ 60000 := hT.1 0
              have v16 : 0 ≤ τ32.1 16 ∧ τ32.1 16 ≤ 60000 := hT.1 16
              have v17 : 0 ≤ τ32.1 17 ∧ τ32.1 17 ≤ 60000 := hT.1 17
              have v18 : 0 ≤ τ32.1 18 ∧ τ32.1 18 ≤ 60000 := hT.1 18
              have v19 : (-1) ≤ τ32.1 19 ∧ τ32.1 19 ≤ 125 := hT.1 19
              have v20 : 0 ≤ τ32.1 20 ∧ τ32.1 20 ≤ 19 := hT.1 20
              exact ih_2 _ _ (show (2 * ((τ32.1 0) - (τ32.1 16)) + 0 : Int) < ((m_2 : Nat) : Int) from by (omega)) hT (show τ32.1 0 = σ.1 0 from by omega) (show (τ32.1 16) ≤ (τ32.1 0) from by omega) (show (σ.1 16) ≤ (τ32.1 16) from by omega) (show ¬ (σ.1 20) = 0 → (τ32.1 20) = (σ.1 20) from by omega) (show 0 ≤ 0 ∧ 0 ≤ 1 from by omega) (show 0 = 0 → (τ32.1 17) + (τ32.1 18) ≤ (τ32.1 0) from by omega) (show 0 = 0 → (τ32.1 20) = 0 → (σ.1 16) < (τ32.1 16) ∧ 0 < (τ32.1 18) from by omega)
          ·
            refine ⟨_, K_X13_skipComment hT (show (τ20.1 16) ≤ (τ20.1 0) from by omega) (show (τ20.1 17) + (τ20.1 18) ≤ (τ20.1 0) from by omega), ?_⟩
            intro τ35 hn_τ35 hf_τ35 hq
            obtain ⟨hT, q33_1, q33_2, q33_3, q33_4, q33_5⟩ := hq
            replace q33_1 : (τ35.1 16) ≤ (τ35.1 0) := q33_1
            replace q33_2 : (τ35.1 17) + (τ35.1 18) ≤ (τ35.1 0) := q33_2
            replace q33_3 : (τ20.1 16) ≤ (τ35.1 16) := q33_3
            replace q33_4 : ¬ (τ20.1 20) = 0 → (τ35.1 20) = (τ20.1 20) := q33_4
            replace q33_5 : ¬ (τ35.1 16) = (τ20.1 16) ∨ ¬ (τ35.1 20) = 0 := q33_5
            have w0_τ35 : τ35.1 0 = τ20.1 0 := hf_τ35.1 0 (by decide)
            have w19_τ35 : τ35.1 19 = τ20.1 19 := hf_τ35.1 19 (by decide)
            have W0 : τ35.1 0 = σ.1 0 := by omega
            have v0 : 0 ≤ τ35.1 0 ∧ τ35.1 0 ≤ 60000 := hT.1 0
            have v16 : 0 ≤ τ35.1 16 ∧ τ35.1 16 ≤ 60000 := hT.1 16
            have v17 : 0 ≤ τ35.1 17 ∧ τ35.1 17 ≤ 60000 := hT.1 17
            have v18 : 0 ≤ τ35.1 18 ∧ τ35.1 18 ≤ 60000 := hT.1 18
            have v19 : (-1) ≤ τ35.1 19 ∧ τ35.1 19 ≤ 125 := hT.1 19
            have v20 : 0 ≤ τ35.1 20 ∧ τ35.1 20 ≤ 19 := hT.1 20
            refine ⟨fun c36 => ?_, fun c36 => ?_⟩
            ·
              exact ih_2 _ _ (show (2 * ((τ35.1 0) - (τ35.1 16)) + 0 : Int) < ((m_2 : Nat) : Int) from by (omega)) hT (show τ35.1 0 = σ.1 0 from by omega) (show (τ35.1 16) ≤ (τ35.1 0) from by omega) (show (σ.1 16) ≤ (τ35.1 16) from by omega) (show ¬ (σ.1 20) = 0 → (τ35.1 20) = (σ.1 20) from by omega) (show 0 ≤ 0 ∧ 0 ≤ 1 from by omega) (show 0 = 0 → (τ35.1 17) + (τ35.1 18) ≤ (τ35.1 0) from by omega) (show 0 = 0 → (τ35.1 20) = 0 → (σ.1 16) < (τ35.1 16) ∧ 0 < (τ35.1 18) from by omega)
            ·
              exact ih_2 _ _ (show (2 * ((τ35.1 0) - (τ35.1 16)) + 1 : Int) < ((m_2 : Nat) : Int) from by (omega)) hT (show τ35.1 0 = σ.1 0 from by omega) (show (τ35.1 16) ≤ (τ35.1 0) from by omega) (show (σ.1 16) ≤ (τ35.1 16) from by omega) (show ¬ (σ.1 20) = 0 → (τ35.1 20) = (σ.1 20) from by omega) (show 0 ≤ 1 ∧ 1 ≤ 1 from by omega) (show 1 = 0 → (τ35.1 17) + (τ35.1 18) ≤ (τ35.1 0) from by omega) (show 1 = 0 → (τ35.1 20) = 0 → (σ.1 16) < (τ35.1 16) ∧ 0 < (τ35.1 18) from by omega)
        ·
          replace hT := mT_v (i := 19) hT (show (-1 : Int) ≤ 0 ∧ 0 ≤ 125 from by omega)
          exact ⟨hT, (show (τ20.1 16) ≤ (τ20.1 0) from by omega), (show (τ20.1 17) + (τ20.1 18) ≤ (τ20.1 0) from by omega), (show (σ.1 16) ≤ (τ20.1 16) from by omega), (show ¬ (σ.1 20) = 0 → (τ20.1 20) = (σ.1 20) from by omega), (show (τ20.1 20) = 0 → ¬ ((0 : Int)) = 0 → (σ.1 16) < (τ20.1 16) ∧ 0 < (τ20.1 18) from by omega)⟩
  exact l_2 ((2 * ((σ.1 0) - (σ.1 16)) + 1 : Int).toNat + 1) _ _ (show (2 * ((σ.1 0) - (σ.1 16)) + 1 : Int) < (((2 * ((σ.1 0) - (σ.1 16)) + 1 : Int).toNat + 1 : Nat) : Int) from by (omega)) hT (show σ.1 0 = σ.1 0 from by omega) (show (σ.1 16) ≤ (σ.1 0) from by omega) (show (σ.1 16) ≤ (σ.1 16) from by omega) (show ¬ (σ.1 20) = 0 → (σ.1 20) = (σ.1 20) from by omega) (show 0 ≤ 1 ∧ 1 ≤ 1 from by omega) (show 1 = 0 → (σ.1 17) + (σ.1 18) ≤ (σ.1 0) from by omega) (show 1 = 0 → (σ.1 20) = 0 → (σ.1 16) < (σ.1 16) ∧ 0 < (σ.1 18) from by omega)
set_option maxHeartbeats 1000000 in
theorem K_X13_failHere {n1 : Int} {σ : S0} (hT : m_T σ) (p1 : 0 ≤ n1) (p2 : n1 ≤ 19) : W_X13_failHere n1 σ (fun (τ : S0) => (m_T τ) ∧ (¬ (σ.1 20) = 0 → (τ.1 20) = (σ.1 20)) ∧ ((σ.1 20) = 0 → (τ.1 20) = n1)) := by
  have v0 : 0 ≤ σ.1 0 ∧ σ.1 0 ≤ 60000 := hT.1 0
  have v17 : 0 ≤ σ.1 17 ∧ σ.1 17 ≤ 60000 := hT.1 17
  have v19 : (-1) ≤ σ.1 19 ∧ σ.1 19 ≤ 125 := hT.1 19
  have v20 : 0 ≤ σ.1 20 ∧ σ.1 20 ≤ 19 := hT.1 20
  have W0 : σ.1 0 = σ.1 0 := rfl
  have W17 : σ.1 17 = σ.1 17 := rfl
  have W19 : σ.1 19 = σ.1 19 := rfl
  intro P20 h20
  refine ⟨fun c1 => ?_, fun c1 => ?_⟩
  ·
    refine h20 _ _ _ ?_
    refine ⟨_, K_X13_fail hT (show 0 ≤ n1 from by omega) (show n1 ≤ 19 from by omega) (show -1 ≤ (σ.1 17) from by omega) (show (σ.1 17) ≤ 60000 from by omega), ?_⟩
    intro τ4 hn_τ4 hf_τ4 hq
    obtain ⟨hT, q2_1, q2_2⟩ := hq
    replace q2_1 : ¬ (σ.1 20) = 0 → (τ4.1 20) = (σ.1 20) := q2_1
    replace q2_2 : (σ.1 20) = 0 → (τ4.1 20) = n1 := q2_2
    have w0_τ4 : τ4.1 0 = σ.1 0 := hf_τ4.1 0 (by decide)
    have w17_τ4 : τ4.1 17 = σ.1 17 := hf_τ4.1 17 (by decide)
    have w19_τ4 : τ4.1 19 = σ.1 19 := hf_τ4.1 19 (by decide)
    have W0 : τ4.1 0 = σ.1 0 := by omega
    have W17 : τ4.1 17 = σ.1 17 := by omega
    have W19 : τ4.1 19 = σ.1 19 := by omega
    have v0 : 0 ≤ τ4.1 0 ∧ τ4.1 0 ≤ 60000 := hT.1 0
    have v17 : 0 ≤ τ4.1 17 ∧ τ4.1 17 ≤ 60000 := hT.1 17
    have v19 : (-1) ≤ τ4.1 19 ∧ τ4.1 19 ≤ 125 := hT.1 19
    have v20 : 0 ≤ τ4.1 20 ∧ τ4.1 20 ≤ 19 := hT.1 20
    exact ⟨hT, (show ¬ (σ.1 20) = 0 → (τ4.1 20) = (σ.1 20) from by omega), (show (σ.1 20) = 0 → (τ4.1 20) = n1 from by omega)⟩
  ·
    refine h20 _ _ _ ?_
    refine ⟨_, K_X13_fail hT (show 0 ≤ n1 from by omega) (show n1 ≤ 19 from by omega) (show -1 ≤ (σ.1 0) from by omega) (show (σ.1 0) ≤ 60000 from by omega), ?_⟩
    intro τ4 hn_τ4 hf_τ4 hq
    obtain ⟨hT, q2_1, q2_2⟩ := hq
    replace q2_1 : ¬ (σ.1 20) = 0 → (τ4.1 20) = (σ.1 20) := q2_1
    replace q2_2 : (σ.1 20) = 0 → (τ4.1 20) = n1 := q2_2
    have w0_τ4 : τ4.1 0 = σ.1 0 := hf_τ4.1 0 (by decide)
    have w17_τ4 : τ4.1 17 = σ.1 17 := hf_τ4.1 17 (by decide)
    have w19_τ4 : τ4.1 19 = σ.1 19 := hf_τ4.1 19 (by decide)
    have W0 : τ4.1 0 = σ.1 0 := by omega
    have W17 : τ4.1 17 = σ.1 17 := by omega
    have W19 : τ4.1 19 = σ.1 19 := by omega
    have v0 : 0 ≤ τ4.1 0 ∧ τ4.1 0 ≤ 60000 := hT.1 0
    have v17 : 0 ≤ τ4.1 17 ∧ τ4.1 17 ≤ 60000 := hT.1 17
    have v19 : (-1) ≤ τ4.1 19 ∧ τ4.1 19 ≤ 125 := hT.1 19
    have v20 : 0 ≤ τ4.1 20 ∧ τ4.1 20 ≤ 19 := hT.1 20
    exact ⟨hT, (show ¬ (σ.1 20) = 0 → (τ4.1 20) = (σ.1 20) from by omega), (show (σ.1 20) = 0 → (τ4.1 20) = n1 from by omega)⟩
set_option maxHeartbeats 1000000 in
theorem K_X13_spot_q1 {n1 : Int} {n2 : Int} {σ : S0} (hT : m_T σ) (p1 : 0 ≤ n1) (p2 : n1 + n2 ≤ 60000) : W_X13_spot_q1 n1 n2 σ (fun (x : Int) => (0 ≤ x ∧ x < 4096)) := by
  intro P5 h5
  have l_5 : ∀ (m_5 : Nat) (u3_5 : Int) (u4_5 : Int), 60001 - u4_5 < (m_5 : Int) → (0 ≤ u4_5) → (u4_5 ≤ 60000) → P5 n1 n2 u3_5 u4_5 := by
    intro m_5
    induction m_5 with
    | zero =>
      intro u3_5 u4_5 hm i5_1 i5_2
      exfalso; omega
    | succ m_5 ih_5 =>
      intro u3_5 u4_5 hm_5 i5_1 i5_2
      refine h5 _ _ _ _ ?_
      refine ⟨fun c1 => ?_, fun c1 => ?_⟩
      ·
        intro x2 r_x2 e_x2
        intro x3 r_x3 e_x3
        exact (show 0 ≤ (x3 % 4096) ∧ (x3 % 4096) < 4096 from by omega)
      ·
        refine ⟨(show 0 ≤ (n1 + u4_5) ∧ (n1 + u4_5) < 60000 from by omega), ?_⟩
        intro x5 r_x5 e_x5
        have b_x5 : 0 ≤ x5 ∧ x5 ≤ 255 := by rw [e_x5]; exact hT.2 0 _
        intro x6 r_x6 e_x6
        refine ⟨(⟨by omega, by omega⟩ : rg (u4_5 + 1)), ?_⟩
        exact ih_5 _ _ (show (60001 - (u4_5 + 1) : Int) < ((m_5 : Nat) : Int) from by (omega)) (show 0 ≤ (u4_5 + 1) from by omega) (show (u4_5 + 1) ≤ 60000 from by omega)
  exact l_5 ((60001 - 0 : Int).toNat + 1) _ _ (show (60001 - 0 : Int) < (((60001 - 0 : Int).toNat + 1 : Nat) : Int) from by (omega)) (show 0 ≤ 0 from by omega) (show 0 ≤ 60000 from by omega)
set_option maxHeartbeats 1000000 in
theorem K_X13_isName_q1 {n1 : Int} {n2 : Int} {n4 : Int} {n5 : Int} {σ : S0} (hT : m_T σ) (p1 : 0 ≤ n1) (p2 : n1 + n2 ≤ 30100) (p3 : 0 ≤ n4) (p4 : n4 + n5 ≤ 60000) : W_X13_isName_q1 n1 n2 n4 n5 σ (fun (x : Int) => (0 ≤ x ∧ x ≤ 1)) := by
  intro P11 h11
  have l_11 : ∀ (m_11 : Nat) (u6_11 : Int), 60001 - u6_11 < (m_11 : Int) → (n2 = n5) → (0 ≤ u6_11) → (u6_11 ≤ 60000) → P11 n1 n4 n5 u6_11 := by
    intro m_11
    induction m_11 with
    | zero =>
      intro u6_11 hm i11_1 i11_2 i11_3
      exfalso; omega
    | succ m_11 ih_11 =>
      intro u6_11 hm_11 i11_1 i11_2 i11_3
      refine h11 _ _ _ _ ?_
      refine ⟨fun c2 => ?_, fun c2 => ?_⟩
      ·
        exact (show 0 ≤ 1 ∧ 1 ≤ 1 from by omega)
      ·
        refine ⟨(show 0 ≤ (n1 + u6_11) ∧ (n1 + u6_11) < 30100 from by omega), ?_⟩
        intro x4 r_x4 e_x4
        have b_x4 : 0 ≤ x4 ∧ x4 ≤ 255 := by rw [e_x4]; exact hT.2 1 _
        refine ⟨(show 0 ≤ (n4 + u6_11) ∧ (n4 + u6_11) < 60000 from by omega), ?_⟩
        intro x6 r_x6 e_x6
        have b_x6 : 0 ≤ x6 ∧ x6 ≤ 255 := by rw [e_x6]; exact hT.2 0 _
        refine ⟨fun c7 => ?_, fun c7 => ?_⟩
        ·
          refine ⟨(⟨by omega, by omega⟩ : rg (u6_11 + 1)), ?_⟩
          exact ih_11 _ (show (60001 - (u6_11 + 1) : Int) < ((m_11 : Nat) : Int) from by (omega)) (show n2 = n5 from by omega) (show 0 ≤ (u6_11 + 1) from by omega) (show (u6_11 + 1) ≤ 60000 from by omega)
        ·
          exact (show 0 ≤ 0 ∧ 0 ≤ 1 from by omega)
  refine ⟨fun c1 => ?_, fun c1 => ?_⟩
  ·
    exact l_11 ((60001 - 0 : Int).toNat + 1) _ (show (60001 - 0 : Int) < (((60001 - 0 : Int).toNat + 1 : Nat) : Int) from by (omega)) (show n2 = n5 from by omega) (show 0 ≤ 0 from by omega) (show 0 ≤ 60000 from by omega)
  ·
    exact (show 0 ≤ 0 ∧ 0 ≤ 1 from by omega)
set_option maxHeartbeats 1000000 in
theorem K_X13_findSymbol_q1 {n2 : Int} {n3 : Int} {σ : S0} (hT : m_T σ) (p1 : 0 ≤ n2) (p2 : n2 + n3 ≤ 60000) (p3 : oc (σ.2.1 6) < 4096) : W_X13_findSymbol_q1 n2 n3 σ (fun (x : Int) => (-1 ≤ x ∧ x ≤ 999) ∧ (x = -1 ∨ ∃ e : Int, (0 ≤ e ∧ e < 4096) ∧ x = σ.2.1 6 e)) := by
  intro P8 h8
  obtain ⟨e, he0, he1, he2⟩ := oc_ex p3
  have l_8 : ∀ (m_8 : Nat) (u4_8 : Int), (e - u4_8) % 4096 < (m_8 : Int) → (0 ≤ u4_8) → (u4_8 < 4096) → P8 n2 n3 u4_8 := by
    intro m_8
    induction m_8 with
    | zero =>
      intro u4_8 hm i8_1 i8_2
      exfalso; omega
    | succ m_8 ih_8 =>
      intro u4_8 hm_8 i8_1 i8_2
      refine h8 _ _ _ ?_
      refine ⟨(show 0 ≤ u4_8 ∧ u4_8 < 4096 from by omega), ?_⟩
      intro x5 r_x5 e_x5
      have b_x5 : (-1) ≤ x5 ∧ x5 ≤ 999 := by rw [e_x5]; exact hT.2 6 _
      refine ⟨fun c6 => ?_, fun c6 => ?_⟩
      ·
        exact ⟨(show -1 ≤ (-1) ∧ (-1) ≤ 999 from by omega), (show (-1) = -1 ∨ ∃ e : Int, (0 ≤ e ∧ e < 4096) ∧ (-1) = σ.2.1 6 e from by (first | exact Or.inl rfl | exact Or.inr ⟨_, by omega, e_x7⟩))⟩
      ·
        intro x7 r_x7 e_x7
        have b_x7 : (-1) ≤ x7 ∧ x7 ≤ 999 := by rw [e_x7]; exact hT.2 6 _
        refine ⟨(show 0 ≤ x7 ∧ x7 < 1001 from by omega), ?_⟩
        intro x9 r_x9 e_x9
        have b_x9 : 0 ≤ x9 ∧ x9 ≤ 30000 := by rw [e_x9]; exact hT.2 2 _
        intro x10 r_x10 e_x10
        have b_x10 : 0 ≤ x10 ∧ x10 ≤ 60 := by rw [e_x10]; exact hT.2 3 _
        have hne : u4_8 ≠ e := fun z => by rw [z] at e_x5; omega
        refine ⟨_, K_X13_isName_q1 hT (show 0 ≤ x9 from by omega) (show x9 + x10 ≤ 30100 from by omega) (show 0 ≤ n2 from by omega) (show n2 + n3 ≤ 60000 from by omega), ?_⟩
        intro x12 r_x12 hq
        have q11_1 := hq
        replace q11_1 : 0 ≤ x12 ∧ x12 ≤ 1 := q11_1
        refine ⟨fun c14 => ?_, fun c14 => ?_⟩
        ·
          exact ih_8 _ (show ((e - ((u4_8 + 1) % 4096)) % 4096 : Int) < ((m_8 : Nat) : Int) from by (omega)) (show 0 ≤ ((u4_8 + 1) % 4096) from by omega) (show ((u4_8 + 1) % 4096) < 4096 from by omega)
        ·
          exact ⟨(show -1 ≤ x7 ∧ x7 ≤ 999 from by omega), (show x7 = -1 ∨ ∃ e : Int, (0 ≤ e ∧ e < 4096) ∧ x7 = σ.2.1 6 e from by (first | exact Or.inl rfl | exact Or.inr ⟨_, by omega, e_x7⟩))⟩
  refine ⟨_, K_X13_spot_q1 hT (show 0 ≤ n2 from by omega) (show n2 + n3 ≤ 60000 from by omega), ?_⟩
  intro x2 r_x2 hq
  have q1_1 := hq
  replace q1_1 : 0 ≤ x2 ∧ x2 < 4096 := q1_1
  exact l_8 (((e - x2) % 4096 : Int).toNat + 1) _ (show ((e - x2) % 4096 : Int) < ((((e - x2) % 4096 : Int).toNat + 1 : Nat) : Int) from by (omega)) (show 0 ≤ x2 from by omega) (show x2 < 4096 from by omega)
set_option maxHeartbeats 1000000 in
theorem K_X13_symbolHere {σ : S0} (hT : m_T σ) (p1 : (σ.1 17) + (σ.1 18) ≤ 60000) (p2 : oc (σ.2.1 6) < 4096) : W_X13_symbolHere σ (fun (x : Int) => (-1 ≤ x ∧ x ≤ 999) ∧ (x = -1 ∨ ∃ e : Int, (0 ≤ e ∧ e < 4096) ∧ x = σ.2.1 6 e)) := by
  have v17 : 0 ≤ σ.1 17 ∧ σ.1 17 ≤ 60000 := hT.1 17
  have v18 : 0 ≤ σ.1 18 ∧ σ.1 18 ≤ 60000 := hT.1 18
  unfold W_X13_symbolHere
  refine ⟨_, K_X13_findSymbol_q1 hT (show 0 ≤ (σ.1 17) from by omega) (show (σ.1 17) + (σ.1 18) ≤ 60000 from by omega) (show oc (σ.2.1 6) < 4096 from by omega), ?_⟩
  intro x2 r_x2 hq
  obtain ⟨q1_1, q1_2⟩ := hq
  replace q1_1 : -1 ≤ x2 ∧ x2 ≤ 999 := q1_1
  replace q1_2 : x2 = -1 ∨ ∃ e : Int, (0 ≤ e ∧ e < 4096) ∧ x2 = σ.2.1 6 e := q1_2
  exact ⟨(show -1 ≤ x2 ∧ x2 ≤ 999 from by omega), (show x2 = -1 ∨ ∃ e : Int, (0 ≤ e ∧ e < 4096) ∧ x2 = σ.2.1 6 e from by exact q1_2)⟩
set_option maxHeartbeats 1000000 in
theorem K_X13_findLabel_q1 {n2 : Int} {n3 : Int} {σ : S0} (hT : m_T σ) (p1 : 0 ≤ n2) (p2 : n2 + n3 ≤ 60000) (p3 : oc (σ.2.1 7) < 4096) : W_X13_findLabel_q1 n2 n3 σ (fun (x : Int) => (-1 ≤ x ∧ x ≤ 1499)) := by
  intro P8 h8
  obtain ⟨e, he0, he1, he2⟩ := oc_ex p3
  have l_8 : ∀ (m_8 : Nat) (u4_8 : Int), (e - u4_8) % 4096 < (m_8 : Int) → (0 ≤ u4_8) → (u4_8 < 4096) → P8 n2 n3 u4_8 := by
    intro m_8
    induction m_8 with
    | zero =>
      intro u4_8 hm i8_1 i8_2
      exfalso; omega
    | succ m_8 ih_8 =>
      intro u4_8 hm_8 i8_1 i8_2
      refine h8 _ _ _ ?_
      refine ⟨(show 0 ≤ u4_8 ∧ u4_8 < 4096 from by omega), ?_⟩
      intro x5 r_x5 e_x5
      have b_x5 : (-1) ≤ x5 ∧ x5 ≤ 1499 := by rw [e_x5]; exact hT.2 7 _
      refine ⟨fun c6 => ?_, fun c6 => ?_⟩
      ·
        exact (show -1 ≤ (-1) ∧ (-1) ≤ 1499 from by omega)
      ·
        intro x7 r_x7 e_x7
        have b_x7 : (-1) ≤ x7 ∧ x7 ≤ 1499 := by rw [e_x7]; exact hT.2 7 _
        refine ⟨(show 0 ≤ x7 ∧ x7 < 1501 from by omega), ?_⟩
        intro x9 r_x9 e_x9
        have b_x9 : 0 ≤ x9 ∧ x9 ≤ 30000 := by rw [e_x9]; exact hT.2 4 _
        intro x10 r_x10 e_x10
        have b_x10 : 0 ≤ x10 ∧ x10 ≤ 60 := by rw [e_x10]; exact hT.2 5 _
        have hne : u4_8 ≠ e := fun z => by rw [z] at e_x5; omega
        refine ⟨_, K_X13_isName_q1 hT (show 0 ≤ x9 from by omega) (show x9 + x10 ≤ 30100 from by omega) (show 0 ≤ n2 from by omega) (show n2 + n3 ≤ 60000 from by omega), ?_⟩
        intro x12 r_x12 hq
        have q11_1 := hq
        replace q11_1 : 0 ≤ x12 ∧ x12 ≤ 1 := q11_1
        refine ⟨fun c14 => ?_, fun c14 => ?_⟩
        ·
          exact ih_8 _ (show ((e - ((u4_8 + 1) % 4096)) % 4096 : Int) < ((m_8 : Nat) : Int) from by (omega)) (show 0 ≤ ((u4_8 + 1) % 4096) from by omega) (show ((u4_8 + 1) % 4096) < 4096 from by omega)
        ·
          exact (show -1 ≤ x7 ∧ x7 ≤ 1499 from by omega)
  refine ⟨_, K_X13_spot_q1 hT (show 0 ≤ n2 from by omega) (show n2 + n3 ≤ 60000 from by omega), ?_⟩
  intro x2 r_x2 hq
  have q1_1 := hq
  replace q1_1 : 0 ≤ x2 ∧ x2 < 4096 := q1_1
  exact l_8 (((e - x2) % 4096 : Int).toNat + 1) _ (show ((e - x2) % 4096 : Int) < ((((e - x2) % 4096 : Int).toNat + 1 : Nat) : Int) from by (omega)) (show 0 ≤ x2 from by omega) (show x2 < 4096 from by omega)
