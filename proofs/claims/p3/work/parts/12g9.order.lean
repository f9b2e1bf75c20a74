-- pure: definitions, one behind another
theorem y_BI_b {σ τ υ : S0} {wv wa wb : List Nat} (h : y_BI σ τ) (hT : m_T τ) (hf : f_r wv wa wb τ υ) (c3 : υ.1 51 ≤ 23400 ∧ υ.1 52 ≤ 23400) (d1 : [3, 5, 6, 7, 8, 9, 10, 11, 47, 48, 49].all (fun i => !wv.contains i) = true) (d2 : [8, 10, 12, 13, 14, 15, 16, 17, 18, 19, 20, 21, 22, 25, 26, 27, 28, 77, 78, 79, 80, 81, 82, 83, 84, 94, 95, 96].all (fun i => !wa.contains i) = true) (d3 : [7].all (fun i => !wb.contains i) = true) : y_BI σ υ := by
  have V : ∀ i : Nat, i ∈ [3, 5, 6, 7, 8, 9, 10, 11, 47, 48, 49] → wv.contains i = false := fun i hi => by simpa using List.all_eq_true.mp d1 i hi
  have A : ∀ i : Nat, i ∈ [8, 10, 12, 13, 14, 15, 16, 17, 18, 19, 20, 21, 22, 25, 26, 27, 28, 77, 78, 79, 80, 81, 82, 83, 84, 94, 95, 96] → wa.contains i = false := fun i hi => by simpa using List.all_eq_true.mp d2 i hi
  have SF : y_SF τ υ := y_SF_h hf (List.all_eq_true.mpr (fun i hi => by rw [V i (by simp at hi ⊢; omega)]; rfl)) (List.all_eq_true.mpr (fun i hi => by rw [A i (by simp at hi ⊢; omega)]; rfl))
  have e94 : υ.2.1 94 = τ.2.1 94 := hf.2.1 94 (by simpa using A 94 (by simp))
  have e95 : υ.2.1 95 = τ.2.1 95 := hf.2.1 95 (by simpa using A 95 (by simp))
  have e7 : υ.2.2 7 = τ.2.2 7 := hf.2.2 7 (by simpa using List.all_eq_true.mp d3 7 (by simp))
  have e49 : υ.1 49 = τ.1 49 := hf.1 49 (by simpa using V 49 (by simp))
  refine y_BI_r h hf (y_CT_e SF.1 SF.2.2.1 SF.2.2.2.1 SF.2.2.2.2.2 e94 e7 h.1.1) ?_ c3 (y_KC_e e94 e7) (y_DT_k h.1.2.2.2.1 hT SF (y_KC_e e94 e7) e95) (List.all_eq_true.mpr (fun i hi => by rw [V i (by simp at hi ⊢; omega)]; rfl)) (List.all_eq_true.mpr (fun i hi => by rw [A i (by simp at hi ⊢; omega)]; rfl))
  rw [e49]
  rcases h.2.1 with z | z
  · exact Or.inl z
  · rw [← h.1.2.2.1.2.2.1] at z
    exact Or.inr (y_tr_h SF.1 hf (List.all_eq_true.mpr (fun i hi => by rw [V i (by simp at hi ⊢; omega)]; rfl)) (List.all_eq_true.mpr (fun i hi => by rw [A i (by simp at hi ⊢; omega)]; rfl)) z)
/-- a counted tree is made again -/
theorem y_BI_o {σ τ υ : S0} {n x : Int} {wv wa wb : List Nat} (h : y_BI σ τ) (hT : m_T τ) (hf : f_r wv wa wb τ υ) (TO : y_TO τ υ n x) (n0 : 0 ≤ n) (n5 : n < τ.1 5) (c : τ.2.1 94 n = 1) (z1 : τ.1 51 ≤ 11700) (z2 : τ.1 52 ≤ 11700) (d1 : [3, 5, 6, 7, 8, 9, 10, 11].all (fun i => !wv.contains i) = true) (d2 : [8, 10, 12, 13, 14, 15, 16, 17, 18, 19, 20, 21, 22, 25, 26, 27, 28, 95, 96].all (fun i => !wa.contains i) = true) (d3 : [7].all (fun i => !wb.contains i) = true) : (y_BI σ υ ∧ y_KC τ υ ∧ y_SF τ υ) ∧ ¬ x = -1 ∧ x = τ.1 51 ∧ y_TR τ υ n x (υ.1 51) := by
  have V : ∀ i : Nat, i ∈ [3, 5, 6, 7, 8, 9, 10, 11] → wv.contains i = false := fun i hi => by simpa using List.all_eq_true.mp d1 i hi
  have A : ∀ i : Nat, i ∈ [8, 10, 12, 13, 14, 15, 16, 17, 18, 19, 20, 21, 22, 25, 26, 27, 28, 95, 96] → wa.contains i = false := fun i hi => by simpa using List.all_eq_true.mp d2 i hi
  have SF : y_SF τ υ := y_SF_h hf (List.all_eq_true.mpr (fun i hi => by rw [V i (by simp at hi ⊢; omega)]; rfl)) (List.all_eq_true.mpr (fun i hi => by rw [A i (by simp at hi ⊢; omega)]; rfl))
  have e95 : υ.2.1 95 = τ.2.1 95 := hf.2.1 95 (by simpa using A 95 (by simp))
  have e7 : υ.2.2 7 = τ.2.2 7 := hf.2.2 7 (by simpa using List.all_eq_true.mp d3 7 (by simp))
  obtain ⟨nx, KC, e94⟩ := y_TO_1 h.1.1 TO n0 n5 c e7
  obtain ⟨t1, t2⟩ := y_TR_o TO SF nx
  refine ⟨⟨y_BI_r h hf (y_CT_e SF.1 SF.2.2.1 SF.2.2.2.1 SF.2.2.2.2.2 e94 e7 h.1.1) (Or.inr TO.2.1.2) ⟨by have w := TO.2.2.1; omega, by have w := TO.2.2.2.1; omega⟩ KC (y_DT_k h.1.2.2.2.1 hT SF KC e95) (List.all_eq_true.mpr (fun i hi => by rw [V i (by simp at hi ⊢; omega)]; rfl)) (List.all_eq_true.mpr (fun i hi => by rw [A i (by simp at hi ⊢; omega)]; rfl)), KC, SF⟩, nx, t1, t2⟩
/-- rows of the rules that are needed stand, as far as their definers were gone through -/
def z_BB (τ : S0) (u : Int) : Prop := ∀ d : Int, 0 ≤ d → d < τ.1 5 → 0 ≤ τ.2.1 97 d → τ.2.1 97 d < u → ¬ τ.2.1 98 d = 0 → z_BV τ d
theorem z_BB_k {σ τ : S0} {u : Int} (h : z_BB σ u) (SF : y_SF σ τ) (e97 : τ.2.1 97 = σ.2.1 97) (e98 : τ.2.1 98 = σ.2.1 98) (e99 : τ.2.1 99 = σ.2.1 99) (e100 : τ.2.1 100 = σ.2.1 100) (e101 : τ.2.1 101 = σ.2.1 101) (e53 : τ.1 53 = σ.1 53) : z_BB τ u := fun d d0 d5 a b c => by
  rw [SF.2.2.1] at d5
  rw [e97] at a b
  rw [e98] at c
  exact z_BV_k (h d d0 d5 a b c) SF.1.2.2.2.2.2.2.2.2.1 SF.2.1 (by rw [e99]) (by rw [e100]) (by omega) (fun e _ => by rw [e101])
/-- the nodes of a definer may be told -/
theorem z_BZ_d {τ υ C : S0} {n u d lo hi : Int} (hT : m_T τ) (hU : m_T υ) (J : n_J τ) (CT : y_CT τ) (DT : y_DT τ) (D1 : z_D1 τ n) (n5 : n ≤ τ.1 5) (N2 : z_N2 τ (-1)) (BB : z_BB τ u) (u0 : 0 ≤ u) (u5 : u < τ.1 5) (d0 : 0 ≤ d) (d5 : d < τ.1 5) (hd : τ.2.1 97 d = u) (nd : ¬ τ.2.1 98 d = 0) (TR : y_TR τ υ u lo hi) (l0 : 0 ≤ lo)
    (SC : y_SD τ C) (c3 : C.1 3 = τ.1 3) (c53 : C.1 53 = τ.1 53) (c86 : C.2.1 86 = υ.2.1 86) (c87 : C.2.1 87 = υ.2.1 87) (c91 : C.2.1 91 = υ.2.1 91) (c97 : C.2.1 97 = τ.2.1 97) (c99 : ∀ r : Int, ¬ r = d → C.2.1 99 r = τ.2.1 99 r) (c100 : C.2.1 100 = τ.2.1 100) (c101 : C.2.1 101 = τ.2.1 101) :
    ((0 ≤ υ.2.1 86 lo ∧ υ.2.1 86 lo < τ.1 5) ∧ y_In τ (υ.2.1 86 lo) ∧ τ.2.1 19 (υ.2.1 86 lo) = 2) ∧ ∃ s : Int, y_FS τ (υ.2.1 86 lo) s ∧ υ.2.1 86 (υ.2.1 91 (υ.2.1 87 lo + s)) = d ∧ ∃ Z : Int → Prop, z_BZ C lo hi (υ.2.1 91 (υ.2.1 87 lo + s)) Z ∧ Z (υ.2.1 91 (υ.2.1 87 lo + (1 - s))) := by
  have l5 : τ.1 5 ≤ 1500 := (hT.1 5).2
  have Ex := z_D1_e D1 DT n5 d0 d5 (by omega)
  rw [hd] at Ex
  obtain ⟨_, E, E95⟩ := Ex
  have CTu := (CT u u0 u5 (by rw [E.1.2.1]; omega)).2.2 E.1.2.1
  obtain ⟨g1, s, g2, g3, Z, g4, g5⟩ := E.2.1.2.2 υ lo hi hU TR
  obtain ⟨S, S0', S1⟩ := y_TR_z J hT hU u0 u5 TR CTu
  refine ⟨g1, s, g2, g3, fun y => Z y ∧ S y, ?_, ?_⟩
  · rintro y ⟨zy, sy⟩
    obtain ⟨a1, a2, a3, a4⟩ := g4 y zy
    obtain ⟨b1, b2, b3⟩ := S1 y sy
    have S19 : υ.2.1 19 = τ.2.1 19 := TR.1.1.2.2.2.2.2.2.2.2.1
    have C19 : C.2.1 19 = τ.2.1 19 := SC.2.2.2.2.2.2.2.2.1
    have k2 := (S1 lo S0').2.2 g1.1.1
    have ks := k2.2 s g2.1.1 g2.1.2
    have ks1 := (S1 _ ks).1
    refine ⟨a1, fun q => ⟨fun w => ?_, fun _ => ?_⟩, fun q => ⟨⟨?_, ?_⟩, fun k k0 k1 => ?_⟩⟩
    · omega
    · rw [c86] at q ⊢
      rw [g3]
      obtain ⟨k, k1, k2⟩ := a3 q
      exact ⟨k, by rw [C19, ← S19]; exact k1, by rw [c86, c87, c91]; exact k2⟩
    · rw [c86] at q ⊢
      rw [(y_SD_e SC).2.1]
      exact (b3 q).1.2.2
    · rw [c86] at q ⊢
      rw [c97]
      have bb := (b3 q).1
      have r5 : υ.2.1 86 y < τ.1 5 := by omega
      have need := N2 d d0 d5 (by omega) nd _ q r5 a2 (by rw [hd]; exact bb.1)
      by_cases z : τ.2.1 97 (υ.2.1 86 y) = -1
      · exact Or.inl z
      · refine Or.inr ?_
        have z0 : 0 ≤ τ.2.1 97 (υ.2.1 86 y) := by
          rcases D1 _ q r5 with w | w
          · exact absurd w z
          · exact w.1.1
        obtain ⟨f1, f2, f3⟩ := z_D1_e D1 DT n5 q r5 z0
        have lt : τ.2.1 97 (υ.2.1 86 y) < u := by
          rcases Int.lt_trichotomy (τ.2.1 97 (υ.2.1 86 y)) u with w | w | w
          · exact w
          · rw [w, E95] at f3
            exact absurd f3.symm a2
          · exact absurd bb.1 ((f2.2.2 u u0 w E.1.2.2 E.1.1).2 E.1.2.1)
        exact z_BV_k (BB _ q r5 z0 lt need) C19 c3 (c99 _ a2) (by rw [c100]) (by omega) (fun e _ => by rw [c101])
    · rw [c86] at q k1
      rw [C19] at k1
      rw [c87, c91]
      refine ⟨?_, (b3 q).2 k k0 k1⟩
      rcases a4 q k k0 (by rw [S19]; exact k1) with w | w
      · exact w
      · exact w.elim
  · exact ⟨g5, ((S1 lo S0').2.2 g1.1.1).2 (1 - s) (by have := g2.1; omega) (by have := g2.1; omega)⟩
/-- the nodes of the statement itself may be told -/
theorem z_BZ_r {τ υ C : S0} {n lo hi : Int} (hT : m_T τ) (hU : m_T υ) (J : n_J τ) (CT : y_CT τ) (c : τ.2.1 94 n = 1) (D1 : z_D1 τ n) (N1 : z_N1 τ n) (BB : z_BB τ n) (n0 : 0 ≤ n) (n5 : n < τ.1 5) (TR : y_TR τ υ n lo hi)
    (SC : y_SD τ C) (c3 : C.1 3 = τ.1 3) (c53 : C.1 53 = τ.1 53) (c86 : C.2.1 86 = υ.2.1 86) (c87 : C.2.1 87 = υ.2.1 87) (c91 : C.2.1 91 = υ.2.1 91) (c97 : C.2.1 97 = τ.2.1 97) (c99 : C.2.1 99 = τ.2.1 99) (c100 : C.2.1 100 = τ.2.1 100) (c101 : C.2.1 101 = τ.2.1 101) : ∃ Z : Int → Prop, z_BZ C lo hi (-1) Z ∧ Z lo := by
  have l5 : τ.1 5 ≤ 1500 := (hT.1 5).2
  have CTu := (CT n n0 n5 (by rw [c]; omega)).2.2 c
  obtain ⟨S, S0', S1⟩ := y_TR_z J hT hU n0 n5 TR CTu
  have C19 : C.2.1 19 = τ.2.1 19 := SC.2.2.2.2.2.2.2.2.1
  refine ⟨S, fun y sy => ?_, S0'⟩
  obtain ⟨b1, b2, b3⟩ := S1 y sy
  refine ⟨b1, fun q => ⟨fun _ => ?_, fun w => absurd rfl w⟩, fun q => ⟨⟨?_, ?_⟩, fun k k0 k1 => ?_⟩⟩
  · rw [c86] at q ⊢
    obtain ⟨p, p1, p2, p3⟩ := b2 q
    obtain ⟨⟨a1, _⟩, _, a6⟩ := (J n n0 n5).1
    obtain ⟨w0, w⟩ := a6 (τ.2.1 14 n + 1 + p) (by omega) (by omega)
    rw [SC.2.2.2.2.1, SC.2.2.2.2.2.2.1, c3, p3]
    rcases w with w | ⟨_, w1, _, _, w4⟩
    · exfalso
      unfold y_lf at p2
      rw [if_neg (fun z => z.1 w.2)] at p2
      omega
    · rw [show -1 - (-1 - τ.2.1 17 (τ.2.1 14 n + 1 + p)) = τ.2.1 17 (τ.2.1 14 n + 1 + p) by omega, w4]
      exact w0
  · rw [c86] at q ⊢
    rw [(y_SD_e SC).2.1]
    exact (b3 q).1.2.2
  · rw [c86] at q ⊢
    rw [c97]
    have bb := (b3 q).1
    have r5 : υ.2.1 86 y < τ.1 5 := by omega
    have need := N1 _ q r5 bb.1
    rcases D1 _ q r5 with w | w
    · exact Or.inl w
    · exact Or.inr (z_BV_k (BB _ q r5 w.1.1 w.1.2 need) C19 c3 (by rw [c99]) (by rw [c100]) (by omega) (fun e _ => by rw [c101]))
  · rw [c86] at q k1
    rw [C19] at k1
    rw [c87, c91]
    exact (b3 q).2 k k0 k1
/-- rules that are defined before, and statements that stand before -/
def z_gu (σ : S0) (u r : Int) : Int := if 0 ≤ σ.2.1 97 r ∧ σ.2.1 97 r < u then 1 else 0
def z_hu (σ : S0) (j : Int) : Int := if σ.2.1 16 (σ.2.1 14 j) = σ.1 11 then 1 else 0
theorem z_gu_b (σ : S0) (u r : Int) : 0 ≤ z_gu σ u r ∧ z_gu σ u r ≤ 1 := by
  unfold z_gu; by_cases z : 0 ≤ σ.2.1 97 r ∧ σ.2.1 97 r < u
  · rw [if_pos z]; omega
  · rw [if_neg z]; omega
theorem z_hu_b (σ : S0) (j : Int) : 0 ≤ z_hu σ j ∧ z_hu σ j ≤ 1 := by
  unfold z_hu; by_cases z : σ.2.1 16 (σ.2.1 14 j) = σ.1 11
  · rw [if_pos z]; omega
  · rw [if_neg z]; omega
theorem z_gu_0 (σ : S0) (n : Int) : sm (z_gu σ 0) n = 0 := by
  have e : sm (z_gu σ 0) n = sm (fun _ => 0) n := sm_x (fun r _ _ => by unfold z_gu; rw [if_neg (by omega)])
  have w : ∀ k : Nat, smN (fun _ => 0) k = 0 := fun k => by
    induction k with
    | zero => rfl
    | succ k ih => show smN (fun _ => 0) k + 0 = 0; rw [ih]; rfl
  rw [e]; exact w n.toNat
theorem z_add {f g : Int → Int} : ∀ n : Nat, (∀ e : Int, 0 ≤ e → e < (n : Int) → f e + g e ≤ 1) → smN f n + smN g n ≤ (n : Int)
  | 0, _ => by show (0 : Int) + 0 ≤ 0; omega
  | n + 1, h => by
    have ih := z_add n (fun e a b => h e a (by omega))
    have w := h (n : Int) (by omega) (by omega)
    show smN f n + f (n : Int) + (smN g n + g (n : Int)) ≤ ((n + 1 : Nat) : Int)
    omega
/-- how long the rows are that stand -/
def z_GH (σ : S0) (u : Int) : Prop := (0 ≤ σ.1 53 ∧ σ.1 53 ≤ 599 * sm (z_gu σ u) (σ.1 5)) ∧ sm (z_gu σ u) (σ.1 5) ≤ sm (z_hu σ) u
theorem z_GH_e {σ τ : S0} {u : Int} (h : z_GH σ u) (SF : y_SF σ τ) (e97 : τ.2.1 97 = σ.2.1 97) (e53 : τ.1 53 = σ.1 53) : z_GH τ u := by
  have a : z_gu τ u = z_gu σ u := by funext r; unfold z_gu; rw [e97]
  have b : z_hu τ = z_hu σ := by funext r; unfold z_hu; rw [SF.1.1, SF.1.2.2.2.2.1, SF.1.2.2.2.2.2.2.1]
  unfold z_GH
  rw [a, b, e53, SF.2.2.1]
  exact h
theorem z_GH_b {σ : S0} {u n : Int} (h : z_GH σ u) (D1 : z_D1 σ n) (DT : y_DT σ) (n5 : n ≤ σ.1 5) (hT : m_T σ) (u0 : 0 ≤ u) (u5 : u ≤ σ.1 5) : σ.1 53 ≤ 449250 := by
  have l5 : σ.1 5 ≤ 1500 := (hT.1 5).2
  have a := sm_m (g := z_hu σ) (n := u) (m := σ.1 5) (fun e _ _ => (z_hu_b σ e).1) u0 u5
  have b := z_add (f := z_gu σ u) (g := z_hu σ) (σ.1 5).toNat (fun r r0 r5 => by
    have x := z_gu_b σ u r
    have y := z_hu_b σ r
    by_cases z : 0 ≤ σ.2.1 97 r
    · have E := (z_D1_e D1 DT n5 r0 (by omega) z).2.1.2.1.2.1.1
      have w : z_hu σ r = 0 := by unfold z_hu; rw [if_neg E.1.2.2.2]
      omega
    · have w : z_gu σ u r = 0 := by unfold z_gu; rw [if_neg (fun q => z q.1)]
      omega)
  have b2 : sm (z_gu σ u) (σ.1 5) + sm (z_hu σ) (σ.1 5) ≤ ((σ.1 5).toNat : Int) := b
  have c := h.1
  have d := h.2
  omega
theorem z_GH_s {σ : S0} {u n : Int} (D1 : z_D1 σ n) (DT : y_DT σ) (n5 : n ≤ σ.1 5) (u0 : 0 ≤ u) : sm (z_gu σ u) (σ.1 5) ≤ sm (z_gu σ (u + 1)) (σ.1 5) ∧ sm (z_gu σ (u + 1)) (σ.1 5) ≤ sm (z_gu σ u) (σ.1 5) + z_hu σ u ∧ ∀ d : Int, 0 ≤ d → d < σ.1 5 → σ.2.1 97 d = u → sm (z_gu σ (u + 1)) (σ.1 5) = sm (z_gu σ u) (σ.1 5) + 1 := by
  have key : ∀ d : Int, 0 ≤ d → d < σ.1 5 → σ.2.1 97 d = u → sm (z_gu σ (u + 1)) (σ.1 5) = sm (z_gu σ u) (σ.1 5) + 1 := fun d d0 d5 hd => by
    have E := z_D1_e D1 DT n5 d0 d5 (by omega)
    have g1 : z_gu σ (u + 1) d = 1 := by unfold z_gu; rw [if_pos (by omega)]
    have w := sm_z (z_gu σ (u + 1)) d0 d5
    have e : sm (st (z_gu σ (u + 1)) d 0) (σ.1 5) = sm (z_gu σ u) (σ.1 5) := sm_x (fun r r0 r5 => by
      by_cases q : r = d
      · rw [q, st_s]; unfold z_gu; rw [if_neg (by omega)]
      · rw [st_n _ _ q]
        unfold z_gu
        by_cases z : 0 ≤ σ.2.1 97 r ∧ σ.2.1 97 r < u
        · rw [if_pos z, if_pos (by omega)]
        · rw [if_neg z, if_neg (fun y => ?_)]
          have y1 : σ.2.1 97 r = u := by omega
          have F := z_D1_e D1 DT n5 r0 r5 y.1
          rw [y1] at F
          rw [hd] at E
          exact q (F.2.2.symm.trans E.2.2))
    omega
  have hb := z_hu_b σ u
  by_cases x : ∃ d : Int, (0 ≤ d ∧ d < σ.1 5) ∧ σ.2.1 97 d = u
  · obtain ⟨d, dr, hd⟩ := x
    have w := key d dr.1 dr.2 hd
    have E := (z_D1_e D1 DT n5 dr.1 dr.2 (by omega)).2.1
    rw [hd] at E
    have h1 : z_hu σ u = 1 := by unfold z_hu; rw [if_pos E.1.2.2]
    exact ⟨by omega, by omega, key⟩
  · have e : sm (z_gu σ (u + 1)) (σ.1 5) = sm (z_gu σ u) (σ.1 5) := sm_x (fun r r0 r5 => by
      unfold z_gu
      by_cases z : 0 ≤ σ.2.1 97 r ∧ σ.2.1 97 r < u
      · rw [if_pos z, if_pos (by omega)]
      · rw [if_neg z, if_neg (fun y => x ⟨r, ⟨r0, r5⟩, by omega⟩)])
    exact ⟨by omega, by omega, key⟩
