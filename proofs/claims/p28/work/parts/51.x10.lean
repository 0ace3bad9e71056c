theorem adF_o {f : Int → Int} {c up lo tr j : Int} (h7 : j ≠ 7) (h : j < 86 + 9 * f 7 ∨ 95 + 9 * f 7 ≤ j) : adF f c up lo tr j = f j := by
  unfold adF
  rw [if_neg h7, if_neg (by omega), if_neg (by omega), if_neg (by omega), if_neg (by omega), if_neg (by omega), if_neg (by omega)]
theorem adm_v {f : Int → Int} {c up lo tr : Int} (h7 : 0 ≤ f 7) (j : Int) : adm f c up lo tr j = if j = 27 then f 27 + 1 else if j = 38 + f 27 then f 7 else adF f c up lo tr j := by
  have e : adF f c up lo tr 27 = f 27 := adF_o (by omega) (by omega)
  have e2 : adF f c up lo tr (27 + 4 * 0) = f 27 := e
  unfold adm jn
  rw [e2]
  by_cases z : j = 27
  · rw [if_pos z, z]
    exact us_s
  · rw [if_neg z, us_n (by omega)]
    by_cases z2 : j = 38 + f 27
    · rw [if_pos z2, z2, show 38 + 16 * 0 + f 27 = 38 + f 27 by omega]
      exact us_s
    · rw [if_neg z2]
      exact us_n (by omega)
theorem adm_Inv {f : Int → Int} {c up lo tr : Int} (I : Inv f) (h7 : f 7 < 64) (hs : f 27 + f 31 + f 35 < 16) (hc : 0 ≤ c ∧ c < 5) (hu : 0 ≤ up ∧ up < 1000000) (hl : 0 ≤ lo ∧ lo < 1000000) (ht : 0 ≤ tr ∧ tr < 1000000) : Inv (adm f c up lo tr) := by
  have le0 := I.le (d := 0) (by omega) (by omega)
  have le1 := I.le (d := 1) (by omega) (by omega)
  have le2 := I.le (d := 2) (by omega) (by omega)
  have m0 : f (27 + 4 * 0) = f 27 := rfl
  have m1 : f (27 + 4 * 1) = f 31 := rfl
  have m2 : f (27 + 4 * 2) = f 35 := rfl
  obtain ⟨iB, i7, iC, i16, iD, iE, iF, g8, g9, g10, g14⟩ := I
  obtain ⟨T, hT⟩ : ∃ T, T = f 7 := ⟨_, rfl⟩
  obtain ⟨h, hh⟩ : ∃ h, h = adm f c up lo tr := ⟨_, rfl⟩
  have o : ∀ j, j ≠ 7 → j ≠ 27 → j ≠ 38 + f 27 → (j < 86 + 9 * T ∨ 95 + 9 * T ≤ j) → h j = f j := fun j a b d e => by
    rw [hh, adm_v i7.2.1, if_neg b, if_neg d, adF_o a (by omega)]
  have v7 : h 7 = T + 1 := by
    rw [hh, adm_v i7.2.1, if_neg (by omega), if_neg (by omega), hT]
    exact if_pos rfl
  have v27 : h 27 = f 27 + 1 := by rw [hh, adm_v i7.2.1, if_pos rfl]
  have vq : h (38 + f 27) = T := by rw [hh, adm_v i7.2.1, if_neg (by omega), if_pos rfl, hT]
  have vA : ∀ j, 86 + 9 * T ≤ j → h j = adF f c up lo tr j := fun j a => by rw [hh, adm_v i7.2.1, if_neg (by omega), if_neg (by omega)]
  have a0 : h (86 + 9 * T) = c := by
    rw [vA _ (by omega)]
    unfold adF
    rw [if_neg (by omega), if_pos (by omega)]
  have a1 : h (87 + 9 * T) = up := by
    rw [vA _ (by omega)]
    unfold adF
    rw [if_neg (by omega), if_neg (by omega), if_pos (by omega)]
  have a2 : h (88 + 9 * T) = lo := by
    rw [vA _ (by omega)]
    unfold adF
    rw [if_neg (by omega), if_neg (by omega), if_neg (by omega), if_pos (by omega)]
  have a3 : h (89 + 9 * T) = tr := by
    rw [vA _ (by omega)]
    unfold adF
    rw [if_neg (by omega), if_neg (by omega), if_neg (by omega), if_neg (by omega), if_pos (by omega)]
  have a4 : h (90 + 9 * T) = 0 := by
    rw [vA _ (by omega)]
    unfold adF
    rw [if_neg (by omega), if_neg (by omega), if_neg (by omega), if_neg (by omega), if_neg (by omega), if_neg (by omega), if_pos (by omega)]
  have a7 : h (93 + 9 * T) = 0 := by
    rw [vA _ (by omega)]
    unfold adF
    rw [if_neg (by omega), if_neg (by omega), if_neg (by omega), if_neg (by omega), if_neg (by omega), if_neg (by omega), if_pos (by omega)]
  have l1 : h 31 = f 31 := o 31 (by omega) (by omega) (by omega) (by omega)
  have l2 : h 35 = f 35 := o 35 (by omega) (by omega) (by omega) (by omega)
  have hw : ∀ d, 0 ≤ d → d < 3 → h (27 + 4 * d) = f (27 + 4 * d) + bt_ (d = 0) 1 := fun d d0 d1 => by
    by_cases z : d = 0
    · subst z
      rw [bt_t rfl]
      exact v27
    · rw [bt_f z, o _ (by omega) (by omega) (by omega) (by omega)]
      omega
  have qv : ∀ d p, Qv h d p → (Qv f d p ∧ h (38 + 16 * d + p) = f (38 + 16 * d + p)) ∨ (d = 0 ∧ p = f 27 ∧ h (38 + 16 * d + p) = T) := by
    intro d p ⟨d0, d1, p0, p1⟩
    rw [hw d d0 d1] at p1
    by_cases z : d = 0
    · subst z
      rw [bt_t rfl] at p1
      by_cases z2 : p = f 27
      · refine Or.inr ⟨rfl, z2, ?_⟩
        rw [z2, show 38 + 16 * 0 + f 27 = 38 + f 27 by omega]
        exact vq
      · exact Or.inl ⟨⟨d0, d1, p0, by omega⟩, o _ (by omega) (by omega) (by omega) (by omega)⟩
    · rw [bt_f z] at p1
      have dd : d = 1 ∨ d = 2 := by omega
      have p16 : p < 16 := by rcases dd with rfl | rfl <;> omega
      exact Or.inl ⟨⟨d0, d1, p0, by omega⟩, o _ (by omega) (by omega) (by omega) (by omega)⟩
  rw [← hh]
  refine ⟨⟨?_, fun k x y => ?_, fun k x y => ?_, fun t x y => ?_⟩, ⟨?_, by omega, by omega⟩, fun d d0 d1 => ?_, by omega, fun d p q => ?_, fun d p d' p' q q' he => ?_, fun t x y => ?_, ?_, ?_, ?_, ?_⟩
  · rw [o 0 (by omega) (by omega) (by omega) (by omega), o 1 (by omega) (by omega) (by omega) (by omega), o 2 (by omega) (by omega) (by omega) (by omega), o 3 (by omega) (by omega) (by omega) (by omega), o 4 (by omega) (by omega) (by omega) (by omega), o 5 (by omega) (by omega) (by omega) (by omega)]
    exact iB.1
  · rw [o _ (by omega) (by omega) (by omega) (by omega)]
    exact iB.2.1 k x y
  · rw [o _ (by omega) (by omega) (by omega) (by omega)]
    exact iB.2.2.1 k x y
  · by_cases z : t = T
    · rw [z, a0, a1, a2, a3]
      exact ⟨hc, hu, hl, ht⟩
    · rw [o _ (by omega) (by omega) (by omega) (by omega), o _ (by omega) (by omega) (by omega) (by omega), o _ (by omega) (by omega) (by omega) (by omega), o _ (by omega) (by omega) (by omega) (by omega)]
      exact iB.2.2.2 t x y
  · rw [o 6 (by omega) (by omega) (by omega) (by omega)]
    exact i7.1
  · have b := bt_01 (d = 0)
    have := iC d d0 d1
    rw [hw d d0 d1, o _ (by omega) (by omega) (by omega) (by omega)]
    omega
  · rcases qv d p q with ⟨q1, q2⟩ | ⟨-, -, q2⟩
    · obtain ⟨s1, s2, s3⟩ := iD d p q1
      rw [q2, v7, o (90 + 9 * f (38 + 16 * d + p)) (by omega) (by omega) (by omega) (by omega)]
      exact ⟨s1, by omega, s3⟩
    · rw [q2, v7, a4]
      omega
  · rcases qv d p q with ⟨q1, q2⟩ | ⟨q1, q3, q2⟩
    · rcases qv d' p' q' with ⟨q1', q2'⟩ | ⟨q1', q3', q2'⟩
      · rw [q2, q2'] at he
        exact iE d p d' p' q1 q1' he
      · have := iD d p q1
        omega
    · rcases qv d' p' q' with ⟨q1', q2'⟩ | ⟨q1', q3', q2'⟩
      · have := iD d' p' q1'
        omega
      · omega
  · rw [v7] at y
    by_cases z : t = T
    · rw [z, a4, a7]
      refine ⟨by omega, by omega, fun _ => ⟨rfl, 0, f 27, ⟨by omega, by omega, by omega, ?_⟩, ?_⟩⟩
      · rw [hw 0 (by omega) (by omega), bt_t rfl]
        omega
      · rw [show 38 + 16 * 0 + f 27 = 38 + f 27 by omega]
        exact vq
    · rw [o (90 + 9 * t) (by omega) (by omega) (by omega) (by omega), o (93 + 9 * t) (by omega) (by omega) (by omega) (by omega)]
      obtain ⟨s1, s2, s3⟩ := iF t x (by omega)
      refine ⟨s1, s2, fun w => ⟨(s3 w).1, ?_⟩⟩
      obtain ⟨d, p, ⟨x1, x2, x3, x4⟩, x5⟩ := (s3 w).2
      have b := bt_01 (d = 0)
      have p16 : p < 16 := by
        have dd : d = 0 ∨ d = 1 ∨ d = 2 := by omega
        rcases dd with rfl | rfl | rfl <;> omega
      refine ⟨d, p, ⟨x1, x2, x3, by rw [hw d x1 x2]; omega⟩, ?_⟩
      by_cases w0 : d = 0
      · subst w0
        rw [o _ (by omega) (by omega) (by omega) (by omega)]
        exact x5
      · rw [o _ (by omega) (by omega) (by omega) (by omega)]
        exact x5
  · have n1 : (h 7).toNat = (f 7).toNat + 1 := by omega
    rw [o 8 (by omega) (by omega) (by omega) (by omega), g8, n1]
    show _ = cF h 1 (f 7).toNat + bt_ (h (90 + 9 * (((f 7).toNat : Nat) : Int)) = 1) 1
    rw [show (((f 7).toNat : Nat) : Int) = T by omega, a4, bt_f (by omega), cF_same (f := f) (g := h) _ (fun t x y => o _ (by omega) (by omega) (by omega) (by omega))]
    omega
  · have n1 : (h 7).toNat = (f 7).toNat + 1 := by omega
    rw [o 9 (by omega) (by omega) (by omega) (by omega), g9, n1]
    show _ = cF h 2 (f 7).toNat + bt_ (h (90 + 9 * (((f 7).toNat : Nat) : Int)) = 2) 1
    rw [show (((f 7).toNat : Nat) : Int) = T by omega, a4, bt_f (by omega), cF_same (f := f) (g := h) _ (fun t x y => o _ (by omega) (by omega) (by omega) (by omega))]
    omega
  · have n1 : (h 7).toNat = (f 7).toNat + 1 := by omega
    rw [o 10 (by omega) (by omega) (by omega) (by omega), g10, n1]
    show _ = cF h 3 (f 7).toNat + bt_ (h (90 + 9 * (((f 7).toNat : Nat) : Int)) = 3) 1
    rw [show (((f 7).toNat : Nat) : Int) = T by omega, a4, bt_f (by omega), cF_same (f := f) (g := h) _ (fun t x y => o _ (by omega) (by omega) (by omega) (by omega))]
    omega
  · have n1 : (h 7).toNat = (f 7).toNat + 1 := by omega
    rw [o 14 (by omega) (by omega) (by omega) (by omega), g14, n1]
    show _ = cU h (f 7).toNat + bt_ (h (90 + 9 * (((f 7).toNat : Nat) : Int)) = 2 ∧ h (93 + 9 * (((f 7).toNat : Nat) : Int)) = 0) 1
    rw [show (((f 7).toNat : Nat) : Int) = T by omega, a4, bt_f (by omega), cU_same (f := f) (g := h) _ (fun t x y => ⟨o _ (by omega) (by omega) (by omega) (by omega), o _ (by omega) (by omega) (by omega) (by omega)⟩)]
    omega
