theorem tks_Iv2 {f : Int → Int} {t : Int} (ht : 0 ≤ t ∧ t < f 7) (hw : f (90 + 9 * t) = 0) {c : Int} (hc : 0 ≤ c) (I : Inv f) (V : Iv2 f) : Iv2 (tks f t c 13) := by
  have i7 := I.i7
  have hle := fun e a b => I.le (d := e) a b
  have o : ∀ j, j ≠ 91 + 9 * t → j ≠ 13 → tks f t c 13 j = f j := fun j a b => tks_o a b
  have e13 : tks f t c 13 13 = f 13 + c := by
    show us _ 13 _ 13 = _
    rw [us_s]
  obtain ⟨va, vb, vc, vd, ve, vf⟩ := V
  refine ⟨fun s x y => ?_, fun e p q => ?_, ?_, ?_, fun e x y => ?_, ?_⟩
  · rw [o 7 (by omega) (by omega)] at y
    have V1 := va s x y
    unfold IvT at V1 ⊢
    rw [o (92 + 9 * s) (by omega) (by omega), o (94 + 9 * s) (by omega) (by omega), o (90 + 9 * s) (by omega) (by omega), o (93 + 9 * s) (by omega) (by omega), o 6 (by omega) (by omega), tks_a (by omega) x, (fmk_cg (o _ (by omega) (by omega)) (o _ (by omega) (by omega)) (o _ (by omega) (by omega))).1]
    refine ⟨?_, V1.2⟩
    split
    · have := V1.1
      omega
    · exact V1.1
  · obtain ⟨x, y, u, v⟩ := q
    rw [o _ (by omega) (by omega)] at v
    have := hle e x y
    have D1 := I.2.2.2.2.1 e p ⟨x, y, u, v⟩
    rw [o (38 + 16 * e + p) (by omega) (by omega), o _ (by omega) (by omega)]
    exact vb e p ⟨x, y, u, v⟩
  · rw [o 11 (by omega) (by omega), o 12 (by omega) (by omega), e13, o 7 (by omega) (by omega), sA_up (f := f) (g := tks f t c 13) (t0 := t) (c := c) ht.1 _ (fun s a b => tks_a (by omega) a), bt_t (show t < ((f 7).toNat : Int) by omega)]
    omega
  · rw [o 11 (by omega) (by omega), o 12 (by omega) (by omega), e13, o 8 (by omega) (by omega), o 9 (by omega) (by omega)]
    omega
  · rw [o _ (by omega) (by omega), o _ (by omega) (by omega)]
    exact ve e x y
  · rw [o 29 (by omega) (by omega), o 33 (by omega) (by omega), o 37 (by omega) (by omega), o 8 (by omega) (by omega), o 9 (by omega) (by omega)]
    exact vf
theorem dly_Iv2 {d : Int} (hd : 0 ≤ d ∧ d < 3) : ∀ (n : Nat) (p : Int) (f : Int → Int), Inv f → Iv2 f → 0 ≤ p → p + n ≤ f (27 + 4 * d) → Iv2 (dly d n p f) ∧ dly d n p f 13 ≤ f 13 + 20 * n ∧ ∀ t, 0 ≤ t → dly d n p f (90 + 9 * t) = f (90 + 9 * t)
  | 0, p, f, I, V, _, _ => ⟨V, by show f 13 ≤ f 13 + 20 * 0; omega, fun _ _ => rfl⟩
  | n + 1, p, f, I, V, h0, h1 => by
    have q0 := I.2.2.2.2.1 d p ⟨hd.1, hd.2, h0, by omega⟩
    have f3 : 0 ≤ f 3 ∧ f 3 ≤ 20 := I.1.1.2.2.2.1
    have e13 : tks f (f (38 + 16 * d + p)) (f 3) 13 13 = f 13 + f 3 := by
      show us _ 13 _ 13 = _
      rw [us_s]
    obtain ⟨a, b, c⟩ := dly_Iv2 hd n (p + 1) (tks f (f (38 + 16 * d + p)) (f 3) 13) (tks_Inv q0.1 (by omega) I) (tks_Iv2 ⟨q0.1, q0.2.1⟩ q0.2.2 f3.1 I V) (by omega) (by rw [tks_o (by omega) (by omega)]; omega)
    refine ⟨a, ?_, fun t ht => (c t ht).trans (tks_o (by omega) (by omega))⟩
    show dly d n (p + 1) (tks f (f (38 + 16 * d + p)) (f 3) 13) 13 ≤ _
    rw [e13] at b
    omega
theorem dlD_Iv2 {d : Int} (hd : 0 ≤ d ∧ d < 3) {f : Int → Int} (I : Inv f) (V : Iv2 f) : Iv2 (dlD f d) ∧ dlD f d 13 ≤ f 13 + 20 * f (27 + 4 * d) ∧ ∀ t, 0 ≤ t → dlD f d (90 + 9 * t) = f (90 + 9 * t) := by
  have := (I.le (d := d) hd.1 hd.2).1
  obtain ⟨a, b, c⟩ := dly_Iv2 hd (f (27 + 4 * d)).toNat 0 f I V (by omega) (by omega)
  exact ⟨a, by unfold dlD; omega, c⟩
/-- a turn: what only grows, what stays, and by how much -/
def Tst (f g : Int → Int) : Prop := f 8 + f 9 ≤ g 8 + g 9 ∧ g 13 ≤ f 13 + 320 ∧ (∀ e, 0 ≤ e → e < 3 → g (28 + 4 * e) ≤ f (28 + 4 * e) + 3) ∧ ∀ t, 0 ≤ t → t < 64 → f (90 + 9 * t) ≠ 0 → g (90 + 9 * t) = f (90 + 9 * t)
theorem hA_Iv2 {f : Int → Int} (I : Inv f) (V : Iv2 f) : Iv2 (hA 3 f) ∧ (f 8 + f 9 ≤ hA 3 f 8 + hA 3 f 9 ∧ hA 3 f 13 = f 13 ∧ (∀ e, 0 ≤ e → e < 3 → hA 3 f (28 + 4 * e) ≤ f (28 + 4 * e) + 3) ∧ ∀ t, 0 ≤ t → t < 64 → f (90 + 9 * t) ≠ 0 → hA 3 f (90 + 9 * t) = f (90 + 9 * t)) := by
  have hh := fun d a b => (I.2.2.1 d a b)
  have s1 := hnd_Inv (d := 2) (o := f 9) (by omega) (f (26 + 4 * 2)).toNat f I
  have t1 := hnd_Iv2 (d := 2) (o := f 9) (by omega) (f (26 + 4 * 2)).toNat f I V
  obtain ⟨g1, hg1⟩ : ∃ g1, g1 = hnD f 2 := ⟨_, rfl⟩
  have s1 : Inv g1 ∧ ∀ j, Kp j ∨ j = 6 → g1 j = f j := by rw [hg1]; exact s1
  have t1 : Iv2 g1 ∧ Stq f g1 2 ((f (26 + 4 * 2)).toNat : Nat) := by rw [hg1]; exact t1
  have s2 := hnd_Inv (d := 1) (o := g1 9) (by omega) (g1 (26 + 4 * 1)).toNat g1 s1.1
  have t2 := hnd_Iv2 (d := 1) (o := g1 9) (by omega) (g1 (26 + 4 * 1)).toNat g1 s1.1 t1.1
  obtain ⟨g2, hg2⟩ : ∃ g2, g2 = hnD g1 1 := ⟨_, rfl⟩
  have s2 : Inv g2 ∧ ∀ j, Kp j ∨ j = 6 → g2 j = g1 j := by rw [hg2]; exact s2
  have t2 : Iv2 g2 ∧ Stq g1 g2 1 ((g1 (26 + 4 * 1)).toNat : Nat) := by rw [hg2]; exact t2
  have s3 := hnd_Inv (d := 0) (o := g2 9) (by omega) (g2 (26 + 4 * 0)).toNat g2 s2.1
  have t3 := hnd_Iv2 (d := 0) (o := g2 9) (by omega) (g2 (26 + 4 * 0)).toNat g2 s2.1 t2.1
  obtain ⟨g3, hg3⟩ : ∃ g3, g3 = hnD g2 0 := ⟨_, rfl⟩
  have t3 : Iv2 g3 ∧ Stq g2 g3 0 ((g2 (26 + 4 * 0)).toNat : Nat) := by rw [hg3]; exact t3
  have e3 : hA 3 f = g3 := by rw [hg3, hg2, hg1]; rfl
  have h2 := hh 2 (by omega) (by omega)
  have h1 := s1.1.2.2.1 1 (by omega) (by omega)
  have h0 := s2.1.2.2.1 0 (by omega) (by omega)
  rw [e3]
  obtain ⟨a1, a2, a3, a4⟩ := t1.2
  obtain ⟨b1, b2, b3, b4⟩ := t2.2
  obtain ⟨c1, c2, c3, c4⟩ := t3.2
  refine ⟨t3.1, by omega, by omega, fun e x y => ?_, fun t x y z => ?_⟩
  · have u1 := a3 e x y
    have u2 := b3 e x y
    have u3 := c3 e x y
    have : e = 0 ∨ e = 1 ∨ e = 2 := by omega
    rcases this with rfl | rfl | rfl
    · rw [bt_f (by omega)] at u1 u2
      rw [bt_t rfl] at u3
      omega
    · rw [bt_f (by omega)] at u1 u3
      rw [bt_t rfl] at u2
      omega
    · rw [bt_f (by omega)] at u2 u3
      rw [bt_t rfl] at u1
      omega
  · have z1 := a4 t x y z
    have z2 := b4 t x y (by rw [z1]; exact z)
    have z3 := c4 t x y (by rw [z2, z1]; exact z)
    rw [z3, z2, z1]
theorem dB_Iv2 {f : Int → Int} (I : Inv f) (V : Iv2 f) : Iv2 (dB 3 0 f) ∧ dB 3 0 f 13 ≤ f 13 + 320 ∧ ∀ t, 0 ≤ t → dB 3 0 f (90 + 9 * t) = f (90 + 9 * t) := by
  obtain ⟨a1, a2⟩ := dlD_Inv (d := 0) (by omega) I
  obtain ⟨b1, b2, b3⟩ := dlD_Iv2 (d := 0) (by omega) I V
  obtain ⟨c1, c2⟩ := dlD_Inv (d := 1) (by omega) a1
  obtain ⟨d1, d2, d3⟩ := dlD_Iv2 (d := 1) (by omega) a1 b1
  obtain ⟨e1, e2, e3⟩ := dlD_Iv2 (d := 2) (by omega) c1 d1
  have x1 := a2 31 (by omega)
  have x2 := a2 35 (by omega)
  have x3 := c2 35 (by omega)
  have i16 := I.2.2.2.1
  have m0 : f (27 + 4 * 0) = f 27 := rfl
  have m1 : dlD f 0 (27 + 4 * 1) = dlD f 0 31 := rfl
  have m2 : dlD (dlD f 0) 1 (27 + 4 * 2) = dlD (dlD f 0) 1 35 := rfl
  show Iv2 (dlD (dlD (dlD f 0) 1) 2) ∧ dlD (dlD (dlD f 0) 1) 2 13 ≤ f 13 + 320 ∧ ∀ t, 0 ≤ t → dlD (dlD (dlD f 0) 1) 2 (90 + 9 * t) = f (90 + 9 * t)
  exact ⟨e1, by omega, fun t x => (e3 t x).trans ((d3 t x).trans (b3 t x))⟩
theorem tn1_Iv2 {f : Int → Int} (I : Inv f) (V : Iv2 f) : Iv2 (tn1 f) ∧ Tst f (tn1 f) := by
  obtain ⟨a, b⟩ := hA_Inv 3 f (by omega) I
  obtain ⟨va, v8, v13, vk, vs⟩ := hA_Iv2 I V
  obtain ⟨c, e⟩ := dB_Inv 3 0 (hA 3 f) (by omega) (by omega) a
  obtain ⟨wa, w13, ws⟩ := dB_Iv2 a va
  have o : ∀ j, j ≠ 6 → tn1 f j = dB 3 0 (hA 3 f) j := fun j h => by rw [tn1_eq, us_n h]
  have e6 : tn1 f 6 = dB 3 0 (hA 3 f) 6 + 1 := by rw [tn1_eq, us_s]
  refine ⟨Iv2_same c wa (by omega) (fun j _ _ _ => o j (by omega)) (fun d x y => ⟨o _ (by omega), by rw [o _ (by omega)]; omega, o _ (by omega)⟩) (fun j _ _ => o j (by omega)) (fun t x y => ⟨fun _ => (fmk_cg (o _ (by omega)) (o _ (by omega)) (o _ (by omega))).1, o _ (by omega), o _ (by omega), o _ (by omega), o _ (by omega), o _ (by omega)⟩), ?_, ?_, fun d x y => ?_, fun t x y z => ?_⟩
  · rw [o 8 (by omega), o 9 (by omega), e 8 (by omega), e 9 (by omega)]
    exact v8
  · rw [o 13 (by omega)]
    omega
  · rw [o _ (by omega), e _ (by omega)]
    exact vk d x y
  · rw [o _ (by omega), ws t x, vs t x y z]
/-- what is bounded by the turns -/
def Bt2 (f : Int → Int) : Prop := f 13 ≤ 320 * f 6 ∧ ∀ e, 0 ≤ e → e < 3 → f (28 + 4 * e) ≤ 3 * f 6
/-- all that always holds -/
def Ok2 (f : Int → Int) : Prop := Inv f ∧ Iv2 f ∧ Bt2 f
theorem tn1_Ok {f : Int → Int} (h : Ok2 f) : Ok2 (tn1 f) ∧ Tst f (tn1 f) := by
  obtain ⟨I, V, b1, b2⟩ := h
  obtain ⟨a, -, c⟩ := tn1_Inv I
  obtain ⟨v, s⟩ := tn1_Iv2 I V
  refine ⟨⟨a, v, ?_, fun e x y => ?_⟩, s⟩
  · have := s.2.1
    omega
  · have := s.2.2.1 e x y
    have := b2 e x y
    omega
theorem tnN_Ok : ∀ (n : Nat) (f : Int → Int), Ok2 f → Ok2 (tnN n f) ∧ (f 8 + f 9 ≤ tnN n f 8 + tnN n f 9) ∧ ∀ t, 0 ≤ t → t < 64 → f (90 + 9 * t) ≠ 0 → tnN n f (90 + 9 * t) = f (90 + 9 * t)
  | 0, f, h => ⟨h, Int.le_refl _, fun _ _ _ _ => rfl⟩
  | n + 1, f, h => by
    obtain ⟨a, b⟩ := tn1_Ok h
    obtain ⟨c, d, e⟩ := tnN_Ok n (tn1 f) a
    refine ⟨c, Int.le_trans b.1 d, fun t x y z => ?_⟩
    have z1 := b.2.2.2 t x y z
    show tnN n (tn1 f) _ = _
    rw [e t x y (by rw [z1]; exact z), z1]
theorem psn_nn {f : Int → Int} (n : Nat) (h : Ok2 f) : 0 ≤ psn n f := by
  have := (tnN_Ok n f h).2.1
  unfold psn
  omega
theorem tnN_add : ∀ (a b : Nat) (f : Int → Int), tnN b (tnN a f) = tnN (a + b) f
  | 0, b, f => by rw [Nat.zero_add]; rfl
  | a + 1, b, f => by
    rw [show a + 1 + b = (a + b) + 1 by omega]
    exact tnN_add a b (tn1 f)
/-- when a trunk is gone: the first of the turns behind which it is -/
theorem unt_1 {t : Int} : ∀ (m : Nat) (k : Int) (f : Int → Int), (unt t m k f = -6 ∧ ∀ j : Nat, j < m → tnN j f (90 + 9 * t) = 0) ∨ ∃ j : Nat, j < m ∧ unt t m k f = k + j ∧ tnN j f (90 + 9 * t) ≠ 0 ∧ unf t m f = tnN j f ∧ ∀ i : Nat, i < j → tnN i f (90 + 9 * t) = 0
  | 0, k, f => Or.inl ⟨rfl, fun j h => by omega⟩
  | m + 1, k, f => by
    by_cases e : f (90 + 9 * t) = 0
    · have e1 : unt t (m + 1) k f = unt t m (k + 1) (tn1 f) := if_pos e
      have e2 : unf t (m + 1) f = unf t m (tn1 f) := if_pos e
      rw [e1, e2]
      rcases unt_1 (t := t) m (k + 1) (tn1 f) with ⟨a, b⟩ | ⟨j, a, b, c, d, g⟩
      · refine Or.inl ⟨a, fun j hj => ?_⟩
        cases j with
        | zero => exact e
        | succ j => exact b j (by omega)
      · refine Or.inr ⟨j + 1, by omega, by omega, c, d, fun i hi => ?_⟩
        cases i with
        | zero => exact e
        | succ i => exact g i (by omega)
    · have e1 : unt t (m + 1) k f = k := if_neg e
      have e2 : unf t (m + 1) f = f := if_neg e
      rw [e1, e2]
      exact Or.inr ⟨0, by omega, by omega, e, rfl, fun i hi => by omega⟩
/-- untilGone and fate, beside n turns: whether the trunk is away then, and what they tell then -/
theorem unt_n {t : Int} (ht : 0 ≤ t ∧ t < 64) {f : Int → Int} (h : Ok2 f) (n : Nat) (hn : n < 200) :
    ((tnN n f (90 + 9 * t) ≠ 0) ↔ (0 ≤ unt t 201 0 f ∧ unt t 201 0 f ≤ n)) ∧ (tnN n f (90 + 9 * t) ≠ 0 → tnN n f (90 + 9 * t) = ftV t f) ∧ ((n : Int) < unt t 201 0 f → unt t 201 0 (tnN n f) = unt t 201 0 f - n ∧ ftV t (tnN n f) = ftV t f) := by
  unfold ftV
  rcases unt_1 (t := t) 201 0 f with ⟨a, b⟩ | ⟨j, a, b, c, d, g⟩
  · rw [a]
    refine ⟨⟨fun z => absurd (b n (by omega)) z, fun z => by omega⟩, fun z => absurd (b n (by omega)) z, fun z => by omega⟩
  · have st : ∀ i : Nat, j ≤ i → tnN i f (90 + 9 * t) = tnN j f (90 + 9 * t) := fun i hi => by
      have e := tnN_add j (i - j) f
      rw [show j + (i - j) = i by omega] at e
      rw [← e]
      exact (tnN_Ok (i - j) (tnN j f) (tnN_Ok j f h).1).2.2 t ht.1 ht.2 c
    have nz : (tnN n f (90 + 9 * t) ≠ 0) ↔ j ≤ n := by
      refine ⟨fun z => ?_, fun z => by rw [st n z]; exact c⟩
      exact Nat.le_of_not_lt fun w => z (g n w)
    rw [b, d, if_neg (by omega)]
    refine ⟨nz.trans ⟨fun z => by omega, fun z => by omega⟩, fun z => st n (nz.mp z), fun z => ?_⟩
    rcases unt_1 (t := t) 201 0 (tnN n f) with ⟨a2, b2⟩ | ⟨j2, a2, b2, c2, d2, g2⟩
    · have := b2 (j - n) (by omega)
      rw [tnN_add, show n + (j - n) = j by omega] at this
      exact absurd this c
    · have ej : n + j2 = j := by
        rcases Nat.lt_trichotomy (n + j2) j with z1 | z1 | z1
        · have := g (n + j2) z1
          rw [← tnN_add] at this
          exact absurd this c2
        · exact z1
        · have := g2 (j - n) (by omega)
          rw [tnN_add, show n + (j - n) = j by omega] at this
          exact absurd this c
      rw [b2, d2, if_neg (by omega), tnN_add, ej]
      exact ⟨by omega, rfl⟩
theorem unt_gone {t : Int} {f : Int → Int} (h : f (90 + 9 * t) ≠ 0) : unt t 201 0 f = 0 ∧ ftV t f = f (90 + 9 * t) := by
  have e1 : unt t 201 0 f = 0 := if_neg h
  have e2 : unf t 201 f = f := if_neg h
  unfold ftV
  rw [e1, e2]
  exact ⟨rfl, if_neg (by omega)⟩
/-- the least SMALL -/
theorem lsm_1 {f : Int → Int} : ∀ (m : Nat) (k : Int), (lsm f m k = -6 ∧ ∀ j : Int, k ≤ j → j < k + m → tnN N200 (us f 0 j) 9 ≠ f 9) ∨ (k ≤ lsm f m k ∧ lsm f m k < k + m ∧ tnN N200 (us f 0 (lsm f m k)) 9 = f 9 ∧ ∀ j : Int, k ≤ j → j < lsm f m k → tnN N200 (us f 0 j) 9 ≠ f 9)
  | 0, k => Or.inl ⟨rfl, fun j a b => by omega⟩
  | m + 1, k => by
    by_cases e : tnN N200 (us f 0 k) 9 = f 9
    · have e1 : lsm f (m + 1) k = k := if_pos e
      rw [e1]
      exact Or.inr ⟨by omega, by omega, e, fun j a b => by omega⟩
    · have e1 : lsm f (m + 1) k = lsm f m (k + 1) := if_neg e
      rw [e1]
      rcases lsm_1 (f := f) m (k + 1) with ⟨a, b⟩ | ⟨a, b, c, d⟩
      · refine Or.inl ⟨a, fun j x y => ?_⟩
        by_cases z : j = k
        · rw [z]; exact e
        · exact b j (by omega) (by omega)
      · refine Or.inr ⟨by omega, by omega, c, fun j x y => ?_⟩
        by_cases z : j = k
        · rw [z]; exact e
        · exact d j (by omega) y
