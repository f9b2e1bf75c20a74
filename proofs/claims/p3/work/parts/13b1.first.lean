-- pure: what new objects hold
def c_0 : S0 := (fun i => if i = 2 then -1 else if i = 45 then 1 else if i = 48 then -1 else if i = 49 then -1 else if i = 200 then 16384 else 0, fun k => if k = 19 then (fun j => if j < 1000 then -1 else 0) else fun _ => 0, fun _ _ => 0)
def m_0 : S0 := (fun i => if i = 10 then -1 else if i = 11 then -1 else if i = 21 then -1 else 0, fun k => if k = 6 then (fun j => if j < 4096 then -1 else 0) else if k = 7 then (fun j => if j < 4096 then -1 else 0) else fun _ => 0, fun _ _ => 0)
theorem i_nc : n_m c_0 := by
  refine ⟨fun i => ?_, fun k j => ?_⟩
  · show rg (if i = 2 then -1 else if i = 45 then 1 else if i = 48 then -1 else if i = 49 then -1 else if i = 200 then 16384 else 0)
    repeat' split
    all_goals exact ⟨by decide, by decide⟩
  · show rg ((if k = 19 then (fun j : Int => if j < 1000 then (-1 : Int) else 0) else fun _ => 0) j)
    by_cases h : k = 19
    · rw [if_pos h]
      by_cases w : j < 1000
      · show rg (if j < 1000 then (-1 : Int) else 0); rw [if_pos w]; exact ⟨by decide, by decide⟩
      · show rg (if j < 1000 then (-1 : Int) else 0); rw [if_neg w]; exact ⟨by decide, by decide⟩
    · rw [if_neg h]; exact ⟨by decide, by decide⟩
theorem i_nM : n_m m_0 := by
  refine ⟨fun i => ?_, fun k j => ?_⟩
  · show rg (if i = 10 then -1 else if i = 11 then -1 else if i = 21 then -1 else 0)
    repeat' split
    all_goals exact ⟨by decide, by decide⟩
  · show rg ((if k = 6 then (fun j : Int => if j < 4096 then (-1 : Int) else 0) else if k = 7 then (fun j : Int => if j < 4096 then (-1 : Int) else 0) else fun _ => 0) j)
    have E : ∀ b : Prop, ∀ _ : Decidable b, rg (if b then (-1 : Int) else 0) := fun b d => by
      by_cases w : b
      · rw [if_pos w]; exact ⟨by decide, by decide⟩
      · rw [if_neg w]; exact ⟨by decide, by decide⟩
    by_cases h : k = 6
    · rw [if_pos h]; exact E _ _
    · rw [if_neg h]
      by_cases h : k = 7
      · rw [if_pos h]; exact E _ _
      · rw [if_neg h]; exact ⟨by decide, by decide⟩
theorem i_cT : c_T c_0 := by
  refine ⟨fun i => ?_, fun k j => ?_⟩
  · by_cases h2 : i = 2
    · rw [h2]; decide
    by_cases h45 : i = 45
    · rw [h45]; decide
    by_cases h48 : i = 48
    · rw [h48]; decide
    by_cases h49 : i = 49
    · rw [h49]; decide
    by_cases h200 : i = 200
    · rw [h200]; decide
    have e : c_0.1 i = 0 := by
      show (if i = 2 then (-1 : Int) else if i = 45 then 1 else if i = 48 then -1 else if i = 49 then -1 else if i = 200 then 16384 else 0) = 0
      rw [if_neg h2, if_neg h45, if_neg h48, if_neg h49, if_neg h200]
    rw [e]
    constructor
    · unfold CLo; split <;> first | decide | omega
    · unfold CHi; split <;> first | decide | omega
  · by_cases h : k = 19
    · rw [h]
      show (-1 : Int) ≤ (if j < 1000 then (-1 : Int) else 0) ∧ (if j < 1000 then (-1 : Int) else 0) ≤ 1499
      by_cases w : j < 1000
      · rw [if_pos w]; decide
      · rw [if_neg w]; decide
    have e : c_0.2.1 k j = 0 := by
      show (if k = 19 then (fun j : Int => if j < 1000 then (-1 : Int) else 0) else fun _ => 0) j = 0
      rw [if_neg h]
    rw [e]
    constructor
    · unfold CLa; split <;> first | decide | omega
    · unfold CHa; split <;> first | decide | omega | (repeat' split) <;> first | decide | omega
theorem i_mT : m_T m_0 := by
  refine ⟨fun i => ?_, fun k j => ?_⟩
  · by_cases h2 : i = 10
    · rw [h2]; decide
    by_cases h45 : i = 11
    · rw [h45]; decide
    by_cases h48 : i = 21
    · rw [h48]; decide
    have e : m_0.1 i = 0 := by
      show (if i = 10 then (-1 : Int) else if i = 11 then -1 else if i = 21 then -1 else 0) = 0
      rw [if_neg h2, if_neg h45, if_neg h48]
    rw [e]
    constructor
    · unfold MLo; split <;> first | decide | omega
    · unfold MHi; split <;> first | decide | omega
  · by_cases h : k = 6
    · rw [h]
      show (-1 : Int) ≤ (if j < 4096 then (-1 : Int) else 0) ∧ (if j < 4096 then (-1 : Int) else 0) ≤ 999
      by_cases w : j < 4096
      · rw [if_pos w]; decide
      · rw [if_neg w]; decide
    by_cases h' : k = 7
    · rw [h']
      show (-1 : Int) ≤ (if j < 4096 then (-1 : Int) else 0) ∧ (if j < 4096 then (-1 : Int) else 0) ≤ 1499
      by_cases w : j < 4096
      · rw [if_pos w]; decide
      · rw [if_neg w]; decide
    have e : m_0.2.1 k j = 0 := by
      show (if k = 6 then (fun j : Int => if j < 4096 then (-1 : Int) else 0) else if k = 7 then (fun j : Int => if j < 4096 then (-1 : Int) else 0) else fun _ => 0) j = 0
      rw [if_neg h, if_neg h']
    rw [e]
    constructor
    · unfold MLa; split <;> first | decide | omega
    · unfold MHa; split <;> first | decide | omega | (repeat' split) <;> first | decide | omega
theorem i_vac {P : Int → Prop} : ∀ i : Int, 0 ≤ i → i < 0 → P i := fun i a b => absurd b (by omega)
theorem i_A : l_A c_0 := by
  refine ⟨show J_ht 0 (fun _ => 0) (fun _ => 0) (fun _ => 0) (fun _ => 0) from ⟨fun b b0 b1 => ⟨Int.le_refl 0, Int.le_refl 0, Or.inl rfl, fun k k0 k1 => absurd k1 (by have k0 : (0 : Int) ≤ k := k0; omega)⟩, fun n a b => absurd b (by omega)⟩, show J_mn 0 0 (0 + 1) (fun _ => 0) from fun n a b => absurd b (by omega),
    show J_rks 0 0 (fun _ => 0) (fun _ => 0) from ⟨fun n a b => absurd b (by omega), fun n a b => absurd b (by omega)⟩, show J_vs 0 0 (fun _ => 0) from fun n a b => absurd b (by omega), show J_vs 0 0 (fun _ => 0) from fun n a b => absurd b (by omega),
    show J_va 0 1000 (fun _ => 0) (fun _ => 0) from ⟨⟨fun n a b => absurd b (by omega), fun i j a b c => absurd c (by omega)⟩, fun n a b => absurd b (by omega)⟩,
    show J_mk 0 0 0 0 (fun _ => 0) from ⟨fun _ _ _ _ _ => ⟨Int.le_refl 0, Int.le_refl 0, Int.le_refl 0⟩, Int.le_refl 0, Int.le_refl 0, Int.le_refl 0⟩,
    show J_sc 0 0 (fun _ => 0) (fun _ => 0) (fun _ => 0) (fun _ => 0) (fun _ => 0) (fun j => if j < 1000 then -1 else 0) from ⟨fun n a b => absurd b (by omega), fun s a b c => absurd c (by show ¬ (0 : Int) ≤ (if s < 1000 then (-1 : Int) else 0); rw [if_pos b]; decide)⟩,
    show J_ff 0 0 (fun _ => 0) (fun _ => 0) (fun _ => 0) (fun _ => 0) from fun n a b => absurd b (by omega), fun s => Int.le_refl 0,
    show J_all 0 0 0 0 0 (fun _ => 0) (fun _ => 0) (fun _ => 0) (fun _ => 0) (fun _ => 0) (fun _ => 0) (fun _ => 0) (fun _ => 0) (fun _ => 0) (fun _ => 0) (fun _ => 0) (fun _ => 0) (fun _ => 0) (fun _ => 0) (fun _ => 0) (fun _ => 0) from ⟨fun n a b => absurd b (by omega), fun _ _ _ _ _ => Int.le_refl 0⟩,
    show J_bp (fun _ => 0) (fun _ => 0) from fun _ => (by decide : (0 : Int) + 0 ≤ 42000), show J_nl 0 (fun _ => 0) (fun _ => 0) (fun _ => 0) from fun n a b => absurd b (by omega), rfl, (by decide : (0 : Int) ≤ 60 * 0), ⟨Int.le_refl 0, Int.le_refl 0⟩, Int.le_refl 0⟩
theorem i_C : l_C 0 c_0 := by
  refine ⟨⟨i_cT, i_A⟩, ⟨Int.le_refl 0, (by decide : (0 : Int) ≤ 60000 * 0)⟩, ⟨fun _ => False, ⟨⟨Int.le_refl 0, (by decide : (1 : Int) ≤ 0 + 1), Int.le_refl 0, ?_⟩, fun s _ _ _ => rfl⟩, ⟨fun _ => rfl, fun i _ _ h => absurd rfl h, Int.le_refl 0⟩⟩, ⟨⟨fun r _ _ h => absurd rfl h, (by decide : (0 : Int) ≤ ((16384 : Nat) : Int)), Int.le_refl 0, fun r _ _ h => absurd rfl h⟩, (by decide : (0 : Int) ≤ 599 * 0), Or.inl rfl⟩, fun h => absurd rfl h⟩
  refine ⟨fun _ => -1, fun _ => 0, fun _ => False, ⟨?_, ?_, ?_, fun r h => h.elim, fun c a b => absurd b (by show ¬ c < 1; omega)⟩, fun r h => h⟩
  · show g_tr 1 (fun _ => 0) (fun _ => 0) (fun _ => 0) (fun _ => 0) (fun _ => 0) (fun _ => -1)
    exact ⟨fun c a b => absurd b (by omega), fun n a b => ⟨(by decide : (0 : Int) < 1), fun h => absurd (show (0 : Int) < 0 from h) (by decide), fun d _ h1 h2 => absurd h1 (by omega)⟩, fun s _ h => absurd (show (0 : Int) < 0 from h) (by decide), fun s _ h => absurd (show (0 : Int) < 0 from h) (by decide), fun c a b => absurd b (by omega), fun _ _ _ => rfl, fun _ _ => rfl⟩
  · show g_ru 0 1 (fun _ => 0) (fun _ => 0) (fun _ => 0) (fun _ => 0) (fun _ => 0) (fun _ => 0) (fun _ => 0) (fun _ => 0) (fun _ => 0) (fun _ => 0) (fun _ => 0) (fun _ => 0) (fun _ => -1) (fun _ => 0) (fun _ => False)
    exact ⟨fun n a b => ⟨Int.le_refl 0, fun h => absurd (show (0 : Int) < 0 from h) (by decide), fun r _ h => h.elim⟩, fun r h => h.elim, fun c a b => absurd b (by omega), fun _ _ _ => rfl⟩
  · show g_un 0 0 (fun _ => 0) (fun _ => 0) (fun _ => 0) (fun _ => 0) (fun _ => 0) (fun _ => 0) (fun _ => False)
    exact ⟨fun n a b => absurd b (by omega), fun u v a b c => absurd c (by omega), fun r h => h.elim, Int.le_refl 0⟩
theorem i_B : l_B m_0 := by
  have T : ∀ e : Int, 0 ≤ e → e < 4096 → (fun j : Int => if j < 4096 then (-1 : Int) else 0) e = -1 := fun e _ b => if_pos b
  have O : oc (fun j : Int => if j < 4096 then (-1 : Int) else 0) = 0 := oc_0 T
  refine ⟨Int.le_of_eq O, Int.le_of_eq O, Int.le_refl 0, fun e a b => ?_, Int.le_refl 0, fun i => (by decide : (0 : Int) + 0 ≤ 20000), (by decide : (0 : Int) ≤ 60 * 0), Int.le_refl 0, fun n a b => absurd (show n < 0 from b) (by omega), fun n a b => absurd (show n < 0 from b) (by omega), fun n a b => absurd (show n < 0 from b) (by omega), ⟨⟨⟨(by decide : (-1 : Int) < 0), (by decide : (-1 : Int) < 0)⟩, fun h => absurd (show (0 : Int) ≤ -1 from h) (by decide), fun h => absurd (show (0 : Int) ≤ -1 from h) (by decide)⟩, fun n a b => absurd (show n < 0 from b) (by omega)⟩, ⟨fun n a b => absurd (show n < 0 from b) (by omega), fun k o _ _ b => absurd (show k < 0 from b) (by omega), fun n a b => absurd (show n < 0 from b) (by omega)⟩, fun n a b => absurd (show n < 0 from b) (by omega)⟩
  show (if e < 4096 then (-1 : Int) else 0) < 0
  rw [if_pos b]; decide
theorem i_M : l_M m_0 := by
  refine ⟨⟨i_mT, i_B⟩, ⟨⟨fun n a b => absurd (show n < 0 from b) (by omega), y_KC_0 _, y_SF_0 _, fun n a b => absurd (show n < 0 from b) (by omega), fun n a b => absurd (show n < 0 from b) (by omega)⟩, Or.inl rfl, i_B.2.2.2.2.2.2.2.2.2.2.2.2.2, i_B.2.2.2.2.2.2.2.2.1, (by decide : (0 : Int) ≤ 23400), (by decide : (0 : Int) ≤ 23400)⟩, fun n a b => absurd (show n < 0 from b) (by omega), Or.inl rfl, fun j => ⟨Int.le_refl 0, (by decide : (0 : Int) ≤ 30000)⟩, fun h => absurd rfl h⟩
