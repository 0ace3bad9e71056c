/-! AT THE START the class holds what the reference holds -/
theorem F_ref_hi {j : Nat} (h : 35 ≤ j) : F_ref j = 0 := by
  unfold F_ref upd
  simp only [show ¬ j = 0 by omega, show ¬ j = 1 by omega, show ¬ j = 2 by omega, show ¬ j = 3 by omega, show ¬ j = 5 by omega, show ¬ j = 15 by omega, show ¬ j = 16 by omega, show ¬ j = 17 by omega, show ¬ j = 18 by omega, show ¬ j = 19 by omega, show ¬ j = 20 by omega, show ¬ j = 21 by omega, show ¬ j = 22 by omega, show ¬ j = 23 by omega, show ¬ j = 24 by omega, show ¬ j = 25 by omega, show ¬ j = 26 by omega, show ¬ j = 30 by omega, show ¬ j = 34 by omega, if_false]
theorem M0_hi {i : Int} (h : 35 ≤ i) : M0 12 i = 0 := by
  show (F_ref i.toNat).toInt = 0
  rw [F_ref_hi (by omega)]
  rfl
theorem M0_rel : ∀ n : Nat, n < 86 → n = 8 ∨ n = 9 ∨ n = 10 ∨ n = 14 ∨ M0 (15 + cl (n : Int)) (pl (n : Int)) = M0 12 (n : Int) := by decide +kernel
theorem M0_v : M0 12 0 = 10 ∧ M0 12 1 = 5 ∧ M0 12 2 = 20 ∧ M0 12 3 = 1 ∧ M0 12 4 = 0 ∧ M0 12 5 = 1 ∧ M0 12 6 = 0 ∧ M0 12 7 = 0 ∧ M0 12 8 = 0 ∧ M0 12 9 = 0 ∧ M0 12 10 = 0 ∧ M0 12 14 = 0 ∧ M0 12 27 = 0 ∧ M0 12 31 = 0 ∧ M0 12 35 = 0 := by decide +kernel
theorem M0_w : ∀ n : Nat, n < 6 → 1 ≤ M0 12 (15 + (n : Int)) ∧ M0 12 (15 + (n : Int)) ≤ 9 := by decide +kernel
theorem M0_t : ∀ n : Nat, n < 5 → 0 ≤ M0 12 (21 + (n : Int)) ∧ M0 12 (21 + (n : Int)) ≤ 9 := by decide +kernel
theorem M0_h : ∀ n : Nat, n < 3 → (0 ≤ M0 12 (26 + 4 * (n : Int)) ∧ M0 12 (26 + 4 * (n : Int)) ≤ 3) ∧ M0 12 (27 + 4 * (n : Int)) = 0 := by decide +kernel
theorem M0_o : M0 4 1 = 0 ∧ M0 4 2 = 0 ∧ M0 11 1 = 0 ∧ M0 11 4 = 0 ∧ M0 8 1 = 0 ∧ (∀ i, M0 14 i = 0) := ⟨rfl, rfl, rfl, rfl, rfl, fun _ => rfl⟩
theorem M0_Inv : Inv (M0 12) := by
  obtain ⟨v0, v1, v2, v3, v4, v5, v6, v7, v8, v9, v10, v14, v27, v31, v35⟩ := M0_v
  have hh : ∀ d, 0 ≤ d → d < 3 → (0 ≤ M0 12 (26 + 4 * d) ∧ M0 12 (26 + 4 * d) ≤ 3) ∧ M0 12 (27 + 4 * d) = 0 := fun d d0 d1 => by
    have := M0_h d.toNat (by omega)
    rw [show ((d.toNat : Nat) : Int) = d by omega] at this
    exact this
  have nq : ∀ d p, ¬ Qv (M0 12) d p := fun d p q => by
    have := (hh d q.1 q.2.1).2
    have q2 := q.2.2
    omega
  refine ⟨⟨by omega, fun k a b => ?_, fun k a b => ?_, fun t a b => ?_⟩, by omega, fun d a b => ?_, by omega, fun d p q => absurd q (nq d p), fun d p _ _ q _ _ => absurd q (nq d p), fun t a b => by omega, ?_, ?_, ?_, ?_⟩
  · have := M0_w k.toNat (by omega)
    rw [show ((k.toNat : Nat) : Int) = k by omega] at this
    exact this
  · have := M0_t k.toNat (by omega)
    rw [show ((k.toNat : Nat) : Int) = k by omega] at this
    exact this
  · rw [M0_hi (by omega), M0_hi (by omega), M0_hi (by omega), M0_hi (by omega)]
    omega
  · have := hh d a b
    omega
  · rw [v8, v7]
    rfl
  · rw [v9, v7]
    rfl
  · rw [v10, v7]
    rfl
  · rw [v14, v7]
    rfl
theorem M0_GI : GI M0 := by
  obtain ⟨o1, o2, o3, o4, o5, o6⟩ := M0_o
  have v7 := M0_v.2.2.2.2.2.2.2.1
  have v6 := M0_v.2.2.2.2.2.2.1
  refine ⟨⟨fun i hi => ?_, by omega, by omega, fun j a b => by omega, trivial, by omega, fun i a b => by omega⟩, ⟨M0_Inv, by omega⟩, by omega, fun j a b => by omega, trivial, by omega, fun i _ _ => by rw [o6]; omega⟩
  obtain ⟨⟨h0, h1, h2, h3, h4, h5⟩, hv⟩ := hi
  rw [v7] at hv
  have h86 : i < 86 := by omega
  rw [en_n (nP h86)]
  have := M0_rel i.toNat (by omega)
  rw [show ((i.toNat : Nat) : Int) = i by omega] at this
  omega
