def bhU (f : Int → Int) (d : Int) : Int → Int := us f (26 + 4 * d) (f (26 + 4 * d) + 1)
/-- the best desk so far, and how many pass with a hand more there -/
noncomputable def bhP (f : Int → Int) : Nat → Int × Int
  | 0 => (-6, psn 5 f)
  | n + 1 => if f (26 + 4 * (n : Int)) < 3 ∧ (bhP f n).2 < psn 5 (bhU f (n : Int)) then ((n : Int), psn 5 (bhU f (n : Int))) else bhP f n
theorem gone_bd {f : Int → Int} (I : Inv f) : (0 ≤ f 8 ∧ f 8 ≤ 64) ∧ (0 ≤ f 9 ∧ f 9 ≤ 64) := by
  have i7 := I.2.1
  have a := cF_bd f 1 (f 7).toNat
  have b := cF_bd f 2 (f 7).toNat
  have c := I.2.2.2.2.2.2.2.1
  have d := I.2.2.2.2.2.2.2.2.1
  omega
theorem psn_bd {f : Int → Int} (n : Nat) (I : Inv f) : -200 ≤ psn n f ∧ psn n f ≤ 200 := by
  have a := gone_bd I
  have b := gone_bd (tnN_Inv n f I).1
  unfold psn
  omega
theorem bhU_Inv {f : Int → Int} {d : Int} (hd : 0 ≤ d ∧ d < 3) (I : Inv f) (h : f (26 + 4 * d) < 3) : Inv (bhU f d) := by
  obtain ⟨iB, i7, iC, i16, iD, iE, iF, g8, g9, g10, g14⟩ := I
  have o : ∀ j, j ≠ 26 + 4 * d → bhU f d j = f j := fun j h => us_n h
  have s : bhU f d (26 + 4 * d) = f (26 + 4 * d) + 1 := us_s
  have c := iC d hd.1 hd.2
  have e7 := o 7 (by omega)
  refine ⟨Bd_keep iB (fun j _ _ => o j (by omega)) (fun j _ _ => o j (by omega)) (fun t _ _ => ⟨o _ (by omega), o _ (by omega), o _ (by omega), o _ (by omega)⟩), by rw [o 6 (by omega), e7]; exact i7, fun e a b => ?_, by rw [o 27 (by omega), o 31 (by omega), o 35 (by omega)]; exact i16, fun e p q => ?_, fun e p e' p' q q' hh => ?_, fun t a b => ?_, ?_, ?_, ?_, ?_⟩
  · rw [o (27 + 4 * e) (by omega)]
    by_cases z : e = d
    · subst z
      rw [s]
      omega
    · rw [o _ (by omega)]
      exact iC e a b
  · obtain ⟨a, b, x, y⟩ := q
    rw [o _ (by omega)] at y
    have := iD e p ⟨a, b, x, y⟩
    rw [o (38 + 16 * e + p) (by omega), e7, o (90 + 9 * f (38 + 16 * e + p)) (by omega)]
    exact this
  · obtain ⟨a, b, x, y⟩ := q
    obtain ⟨a', b', x', y'⟩ := q'
    rw [o _ (by omega)] at y y'
    rw [o _ (by omega), o _ (by omega)] at hh
    exact iE e p e' p' ⟨a, b, x, y⟩ ⟨a', b', x', y'⟩ hh
  · rw [e7] at b
    rw [o _ (by omega), o _ (by omega)]
    obtain ⟨r1, r2, r3⟩ := iF t a b
    refine ⟨r1, r2, fun z => ⟨(r3 z).1, ?_⟩⟩
    obtain ⟨e, p, ⟨x1, x2, x3, x4⟩, h2⟩ := (r3 z).2
    exact ⟨e, p, ⟨x1, x2, x3, by rw [o _ (by omega)]; exact x4⟩, by rw [o _ (by omega)]; exact h2⟩
  · rw [o 8 (by omega), e7, g8]
    exact (cF_same _ (fun t a b => o _ (by omega))).symm
  · rw [o 9 (by omega), e7, g9]
    exact (cF_same _ (fun t a b => o _ (by omega))).symm
  · rw [o 10 (by omega), e7, g10]
    exact (cF_same _ (fun t a b => o _ (by omega))).symm
  · rw [o 14 (by omega), e7, g14]
    exact (cU_same _ (fun t a b => ⟨o _ (by omega), o _ (by omega)⟩)).symm
theorem bhP_bd {f : Int → Int} (I : Inv f) : ∀ n : Nat, n ≤ 3 → -200 ≤ (bhP f n).2 ∧ (bhP f n).2 ≤ 200
  | 0, _ => psn_bd 5 I
  | n + 1, h => by
    unfold bhP
    by_cases e : f (26 + 4 * (n : Int)) < 3 ∧ (bhP f n).2 < psn 5 (bhU f (n : Int))
    · rw [if_pos e]
      exact psn_bd 5 (bhU_Inv (by omega) I e.1)
    · rw [if_neg e]
      exact bhP_bd I n (by omega)
abbrev C_X7_bestHand : Ct := (1, true, fun as M => ∃ (o : Nat), as = [wR o] ∧ (o = 11 ∧ Inv (M 12)), fun as M x M' => ∀ (o : Nat), as = [wR o] → (x = (bhP (tau M) 3).1 ∧ Tr M M'))
