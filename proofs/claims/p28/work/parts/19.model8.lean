noncomputable def lsm (f : Int → Int) : Nat → Int → Int
  | 0, _ => -6
  | n + 1, k => if tnN N200 (us f 0 k) 9 = f 9 then k else lsm f n (k + 1)
theorem us0_Inv {f : Int → Int} {k : Int} (hk : 0 ≤ k ∧ k ≤ 200) (I : Inv f) : Inv (us f 0 k) := by
  obtain ⟨iB, i7, iC, i16, iD, iE, iF, g8, g9, g10, g14⟩ := I
  have o : ∀ j, j ≠ 0 → us f 0 k j = f j := fun j h => us_n h
  refine ⟨?_, by rw [o 6 (by omega), o 7 (by omega)]; exact i7, fun e a b => by rw [o _ (by omega), o _ (by omega)]; exact iC e a b, by rw [o 27 (by omega), o 31 (by omega), o 35 (by omega)]; exact i16, fun e p q => ?_, fun e p e' p' q q' hh => ?_, fun t a b => ?_, ?_, ?_, ?_, ?_⟩
  · obtain ⟨a, b, c, d⟩ := iB
    refine ⟨?_, fun k k0 k1 => ?_, fun k k0 k1 => ?_, fun t t0 t1 => ?_⟩
    · rw [us_s, o 1 (by omega), o 2 (by omega), o 3 (by omega), o 4 (by omega), o 5 (by omega)]
      exact ⟨hk, a.2⟩
    · rw [o _ (by omega)]
      exact b k k0 k1
    · rw [o _ (by omega)]
      exact c k k0 k1
    · rw [o _ (by omega), o _ (by omega), o _ (by omega), o _ (by omega)]
      exact d t t0 t1
  · obtain ⟨a, b, x, y⟩ := q
    rw [o _ (by omega)] at y
    have := iD e p ⟨a, b, x, y⟩
    rw [o (38 + 16 * e + p) (by omega), o 7 (by omega), o (90 + 9 * f (38 + 16 * e + p)) (by omega)]
    exact this
  · obtain ⟨a, b, x, y⟩ := q
    obtain ⟨a', b', x', y'⟩ := q'
    rw [o _ (by omega)] at y y'
    rw [o _ (by omega), o _ (by omega)] at hh
    exact iE e p e' p' ⟨a, b, x, y⟩ ⟨a', b', x', y'⟩ hh
  · rw [o 7 (by omega)] at b
    rw [o _ (by omega), o _ (by omega)]
    obtain ⟨r1, r2, r3⟩ := iF t a b
    refine ⟨r1, r2, fun z => ⟨(r3 z).1, ?_⟩⟩
    obtain ⟨e, p, ⟨x1, x2, x3, x4⟩, h2⟩ := (r3 z).2
    exact ⟨e, p, ⟨x1, x2, x3, by rw [o _ (by omega)]; exact x4⟩, by rw [o _ (by omega)]; exact h2⟩
  · rw [o 8 (by omega), o 7 (by omega), g8]
    exact (cF_same _ (fun t a b => o _ (by omega))).symm
  · rw [o 9 (by omega), o 7 (by omega), g9]
    exact (cF_same _ (fun t a b => o _ (by omega))).symm
  · rw [o 10 (by omega), o 7 (by omega), g10]
    exact (cF_same _ (fun t a b => o _ (by omega))).symm
  · rw [o 14 (by omega), o 7 (by omega), g14]
    exact (cU_same _ (fun t a b => ⟨o _ (by omega), o _ (by omega)⟩)).symm
abbrev C_X7_leastSmall : Ct := (1, true, fun as M => ∃ (o : Nat), as = [wR o] ∧ (o = 11 ∧ Inv (M 12)), fun as M x M' => ∀ (o : Nat), as = [wR o] → (x = lsm (tau M) 201 0 ∧ Tr M M'))
