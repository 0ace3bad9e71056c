/-! WHAT ELSE ALWAYS HOLDS of a row: accounts, how often a trunk was handed on, what desks did -/
def sA (f : Int → Int) : Nat → Int
  | 0 => 0
  | n + 1 => sA f n + f (91 + 9 * (n : Int))
theorem sA_same {f g : Int → Int} : ∀ n : Nat, (∀ t : Int, 0 ≤ t → t < n → g (91 + 9 * t) = f (91 + 9 * t)) → sA g n = sA f n
  | 0, _ => rfl
  | n + 1, h => by
    show sA g n + _ = sA f n + _
    rw [sA_same n (fun t a b => h t a (by omega)), h n (by omega) (by omega)]
theorem sA_up {f g : Int → Int} {t0 c : Int} (ht : 0 ≤ t0) : ∀ n : Nat, (∀ t : Int, 0 ≤ t → t < n → g (91 + 9 * t) = if t = t0 then f (91 + 9 * t) + c else f (91 + 9 * t)) → sA g n = sA f n + bt_ (t0 < n) c
  | 0, _ => by
    show (0 : Int) = 0 + _
    rw [bt_f (by omega)]
    rfl
  | n + 1, h => by
    show sA g n + _ = sA f n + _ + _
    rw [sA_up ht n (fun t a b => h t a (by omega)), h n (by omega) (by omega)]
    by_cases e : (n : Int) = t0
    · rw [if_pos e, bt_f (show ¬ t0 < (n : Int) by omega), bt_t (show t0 < ((n + 1 : Nat) : Int) by omega)]
      omega
    · rw [if_neg e]
      by_cases e2 : t0 < n
      · rw [bt_t e2, bt_t (show t0 < ((n + 1 : Nat) : Int) by omega)]
        omega
      · rw [bt_f e2, bt_f (show ¬ t0 < ((n + 1 : Nat) : Int) by omega)]
        omega
theorem sA_nn {f : Int → Int} : ∀ n : Nat, (∀ t : Int, 0 ≤ t → t < n → 0 ≤ f (91 + 9 * t)) → 0 ≤ sA f n ∧ ∀ t : Int, 0 ≤ t → t < n → f (91 + 9 * t) ≤ sA f n
  | 0, _ => ⟨Int.le_refl _, fun t a b => by omega⟩
  | n + 1, h => by
    have i := sA_nn n (fun t a b => h t a (by omega))
    have z := h n (by omega) (by omega)
    show 0 ≤ sA f n + _ ∧ ∀ t : Int, 0 ≤ t → t < ((n + 1 : Nat) : Int) → f (91 + 9 * t) ≤ sA f n + f (91 + 9 * (n : Int))
    refine ⟨by omega, fun t a b => ?_⟩
    by_cases e : t = n
    · rw [e]
      omega
    · have := i.2 t a (by omega)
      omega
def IvT (f : Int → Int) (t : Int) : Prop := 0 ≤ f (91 + 9 * t) ∧ (0 ≤ f (92 + 9 * t) ∧ f (92 + 9 * t) ≤ f 6) ∧ (0 ≤ f (94 + 9 * t) ∧ f (94 + 9 * t) ≤ 2) ∧ (f (90 + 9 * t) = 2 → f (94 + 9 * t) = 2) ∧ f (93 + 9 * t) = (if f (90 + 9 * t) = 2 then fmk f t else 0)
def Iv2 (f : Int → Int) : Prop := (∀ t, 0 ≤ t → t < f 7 → IvT f t) ∧ (∀ d p, Qv f d p → f (94 + 9 * f (38 + 16 * d + p)) = d) ∧ f 11 + f 12 + f 13 = sA f (f 7).toNat ∧ ((0 ≤ f 11 ∧ f 11 ≤ 50 * f 8) ∧ (0 ≤ f 12 ∧ f 12 ≤ 540 * f 9) ∧ 0 ≤ f 13) ∧
  (∀ d, 0 ≤ d → d < 3 → 0 ≤ f (29 + 4 * d) ∧ f (29 + 4 * d) ≤ f (28 + 4 * d)) ∧ (f 29 + f 33 + f 37 = f 8 + f 9 ∧ f 9 ≤ f 37)
theorem Iv2_pass {f g : Int → Int} {d p0 w m a b z t0 : Int} (I : Inv f) (V : Iv2 f) (hd : 0 ≤ d ∧ d < 3) (hp0 : 0 ≤ p0 ∧ p0 < f (27 + 4 * d)) (e0 : f (38 + 16 * d + p0) = t0) (hw : w = 1 ∨ w = 2 ∨ w = 3) (hz : z = bt_ (w ≠ 3) 1)
    (hm : m = (if w = 2 then fmk f t0 else 0)) (h2 : w = 2 → d = 2) (ha : 0 ≤ a ∧ a ≤ 50 * bt_ (w = 1) 1) (hb : 0 ≤ b ∧ b ≤ 540 * bt_ (w = 2) 1) (h6 : g 6 = f 6) (h7 : g 7 = f 7)
    (hl : ∀ e, 0 ≤ e → e < 3 → g (27 + 4 * e) = f (27 + 4 * e) - bt_ (e = d) 1) (hq : ∀ e p, 0 ≤ e → e < 3 → 0 ≤ p → p < f (27 + 4 * e) - bt_ (e = d) 1 → g (38 + 16 * e + p) = f (38 + 16 * e + p + bt_ (e = d ∧ p0 ≤ p) 1))
    (ht : ∀ t, 0 ≤ t → t < 64 → (g (87 + 9 * t) = f (87 + 9 * t) ∧ g (88 + 9 * t) = f (88 + 9 * t) ∧ g (89 + 9 * t) = f (89 + 9 * t)) ∧ g (90 + 9 * t) = (if t = t0 then w else f (90 + 9 * t)) ∧ g (91 + 9 * t) = (if t = t0 then f (91 + 9 * t) + (a + b) else f (91 + 9 * t)) ∧ g (92 + 9 * t) = f (92 + 9 * t) ∧ g (93 + 9 * t) = (if t = t0 then m else f (93 + 9 * t)) ∧ g (94 + 9 * t) = f (94 + 9 * t))
    (h8 : g 8 = f 8 + bt_ (w = 1) 1) (h9 : g 9 = f 9 + bt_ (w = 2) 1) (h11 : g 11 = f 11 + a) (h12 : g 12 = f 12 + b) (h13 : g 13 = f 13) (hk : ∀ e, 0 ≤ e → e < 3 → g (28 + 4 * e) = f (28 + 4 * e) + bt_ (e = d) z ∧ g (29 + 4 * e) = f (29 + 4 * e) + bt_ (e = d) z) : Iv2 g := by
  have i7 := I.i7
  have D0 := I.2.2.2.2.1 d p0 ⟨hd.1, hd.2, hp0.1, hp0.2⟩
  rw [e0] at D0
  obtain ⟨va, vb, vc, vd, ve, vf⟩ := V
  have B0 := vb d p0 ⟨hd.1, hd.2, hp0.1, hp0.2⟩
  rw [e0] at B0
  have T0 := va t0 D0.1 D0.2.1
  unfold IvT at T0
  have b1 := bt_01 (w = 1)
  have b2 := bt_01 (w = 2)
  have b3 := bt_01 (w ≠ 3)
  have k0 := hk 0 (by omega) (by omega)
  have k1 := hk 1 (by omega) (by omega)
  have k2 := hk 2 (by omega) (by omega)
  have e0 := ve 0 (by omega) (by omega)
  have e1 := ve 1 (by omega) (by omega)
  have e2 := ve 2 (by omega) (by omega)
  have m0 : f (29 + 4 * 0) = f 29 := rfl
  have m1 : f (29 + 4 * 1) = f 33 := rfl
  have m2 : f (29 + 4 * 2) = f 37 := rfl
  have n0 : g (29 + 4 * 0) = g 29 := rfl
  have n1 : g (29 + 4 * 1) = g 33 := rfl
  have n2 : g (29 + 4 * 2) = g 37 := rfl
  have hzz : bt_ (w = 1) 1 + bt_ (w = 2) 1 = z := by
    rw [hz]
    rcases hw with rfl | rfl | rfl
    · rw [bt_t rfl, bt_f (by omega), bt_t (by omega)]; rfl
    · rw [bt_f (by omega), bt_t rfl, bt_t (by omega)]; rfl
    · rw [bt_f (by omega), bt_f (by omega), bt_f (by omega)]; rfl
  refine ⟨fun t x y => ?_, fun e p q => ?_, ?_, by omega, fun e x y => ?_, ?_⟩
  · rw [h7] at y
    obtain ⟨⟨p1, p2, p3⟩, q0, q1, q2, q3, q4⟩ := ht t x (by omega)
    have V1 := va t x y
    unfold IvT at V1 ⊢
    rw [q0, q1, q2, q3, q4, h6, (fmk_cg p1 p2 p3).1]
    by_cases e : t = t0
    · subst e
      rw [if_pos rfl, if_pos rfl, if_pos rfl]
      exact ⟨by omega, by omega, by omega, fun u => by have := h2 u; omega, hm⟩
    · rw [if_neg e, if_neg e, if_neg e]
      exact V1
  · obtain ⟨x, y, u, v⟩ := q
    rw [hl e x y] at v
    have hq := hq e p x y u v
    have bb := bt_01 (e = d)
    have q' : Qv f e (p + bt_ (e = d ∧ p0 ≤ p) 1) := by
      by_cases z1 : e = d
      · rw [bt_t z1] at v
        have := bt_01 (e = d ∧ p0 ≤ p)
        exact ⟨x, y, by omega, by omega⟩
      · rw [bt_f (fun z => z1 z.1)]
        exact ⟨x, y, by omega, by omega⟩
    have D1 := I.2.2.2.2.1 _ _ q'
    rw [show 38 + 16 * e + (p + bt_ (e = d ∧ p0 ≤ p) 1) = 38 + 16 * e + p + bt_ (e = d ∧ p0 ≤ p) 1 by omega] at D1
    rw [hq, (ht _ D1.1 (by omega)).2.2.2.2.2]
    have := vb _ _ q'
    rwa [show 38 + 16 * e + (p + bt_ (e = d ∧ p0 ≤ p) 1) = 38 + 16 * e + p + bt_ (e = d ∧ p0 ≤ p) 1 by omega] at this
  · rw [h7, h11, h12, h13, sA_up (f := f) (g := g) (t0 := t0) (c := a + b) D0.1 _ (fun t x y => (ht t x (by omega)).2.2.1), bt_t (show t0 < ((f 7).toNat : Int) by omega)]
    omega
  · have V1 := ve e x y
    rw [(hk e x y).1, (hk e x y).2]
    have bb : 0 ≤ bt_ (e = d) z := by
      by_cases z1 : e = d
      · rw [bt_t z1]; omega
      · rw [bt_f z1]; omega
    omega
  · have hdd : d = 0 ∨ d = 1 ∨ d = 2 := by omega
    rcases hdd with rfl | rfl | rfl
    · rw [bt_t rfl] at k0
      rw [bt_f (by omega)] at k1 k2
      have : w ≠ 2 := fun u => by have := h2 u; omega
      rw [bt_f this] at h9 hzz
      omega
    · rw [bt_t rfl] at k1
      rw [bt_f (by omega)] at k0 k2
      have : w ≠ 2 := fun u => by have := h2 u; omega
      rw [bt_f this] at h9 hzz
      omega
    · rw [bt_t rfl] at k2
      rw [bt_f (by omega)] at k0 k1
      omega
theorem Iv2_join {f g : Int → Int} {d t0 : Int} (I : Inv f) (V : Iv2 f) (hd : 0 ≤ d ∧ d < 2) (hn : 1 ≤ f (27 + 4 * d)) (e0 : f (38 + 16 * d) = t0) (h6 : g 6 = f 6) (h7 : g 7 = f 7)
    (hl : ∀ e, 0 ≤ e → e < 3 → g (27 + 4 * e) = f (27 + 4 * e) - bt_ (e = d) 1 + bt_ (e = d + 1) 1) (hq : ∀ e p, 0 ≤ e → e < 3 → 0 ≤ p → p < f (27 + 4 * e) - bt_ (e = d) 1 → g (38 + 16 * e + p) = f (38 + 16 * e + p + bt_ (e = d) 1)) (hz : g (38 + 16 * (d + 1) + f (27 + 4 * (d + 1))) = t0)
    (ht : ∀ t, 0 ≤ t → t < 64 → (g (87 + 9 * t) = f (87 + 9 * t) ∧ g (88 + 9 * t) = f (88 + 9 * t) ∧ g (89 + 9 * t) = f (89 + 9 * t)) ∧ g (90 + 9 * t) = f (90 + 9 * t) ∧ g (91 + 9 * t) = f (91 + 9 * t) ∧ g (92 + 9 * t) = f (92 + 9 * t) ∧ g (93 + 9 * t) = f (93 + 9 * t) ∧ g (94 + 9 * t) = (if t = t0 then f (94 + 9 * t) + 1 else f (94 + 9 * t)))
    (h8 : g 8 = f 8) (h9 : g 9 = f 9) (h11 : g 11 = f 11) (h12 : g 12 = f 12) (h13 : g 13 = f 13) (hk : ∀ e, 0 ≤ e → e < 3 → g (28 + 4 * e) = f (28 + 4 * e) + bt_ (e = d) 1 ∧ g (29 + 4 * e) = f (29 + 4 * e)) : Iv2 g := by
  have i7 := I.i7
  have q0 : Qv f d 0 := ⟨hd.1, by omega, by omega, by omega⟩
  have D0 := I.2.2.2.2.1 d 0 q0
  rw [Int.add_zero, e0] at D0
  obtain ⟨va, vb, vc, vd, ve, vf⟩ := V
  have B0 := vb d 0 q0
  rw [Int.add_zero, e0] at B0
  have k0 := (hk 0 (by omega) (by omega)).2
  have k1 := (hk 1 (by omega) (by omega)).2
  have k2 := (hk 2 (by omega) (by omega)).2
  have m0 : f (29 + 4 * 0) = f 29 := rfl
  have m1 : f (29 + 4 * 1) = f 33 := rfl
  have m2 : f (29 + 4 * 2) = f 37 := rfl
  have n0 : g (29 + 4 * 0) = g 29 := rfl
  have n1 : g (29 + 4 * 1) = g 33 := rfl
  have n2 : g (29 + 4 * 2) = g 37 := rfl
  refine ⟨fun t x y => ?_, fun e p q => ?_, ?_, by omega, fun e x y => ?_, by omega⟩
  · rw [h7] at y
    obtain ⟨⟨p1, p2, p3⟩, r0, r1, r2, r3, r4⟩ := ht t x (by omega)
    have V1 := va t x y
    unfold IvT at V1 ⊢
    rw [r0, r1, r2, r3, r4, h6, (fmk_cg p1 p2 p3).1]
    by_cases e : t = t0
    · subst e
      rw [if_pos rfl, D0.2.2]
      rw [D0.2.2] at V1
      exact ⟨V1.1, V1.2.1, by omega, fun u => by omega, V1.2.2.2.2⟩
    · rw [if_neg e]
      exact V1
  · obtain ⟨x, y, u, v⟩ := q
    rw [hl e x y] at v
    by_cases ez : e = d + 1 ∧ p = f (27 + 4 * (d + 1))
    · obtain ⟨z1, z2⟩ := ez
      subst z1
      subst z2
      rw [hz, (ht t0 D0.1 (by omega)).2.2.2.2.2, if_pos rfl]
      omega
    · have v2 : p < f (27 + 4 * e) - bt_ (e = d) 1 := by
        by_cases z1 : e = d + 1
        · rw [bt_f (show ¬ e = d by omega)] at v ⊢
          rw [bt_t z1] at v
          subst z1
          have : p ≠ f (27 + 4 * (d + 1)) := fun z => ez ⟨rfl, z⟩
          omega
        · rw [bt_f z1] at v
          omega
      have hq := hq e p x y u v2
      have bb := bt_01 (e = d)
      have q' : Qv f e (p + bt_ (e = d) 1) := ⟨x, y, by omega, by omega⟩
      have D1 := I.2.2.2.2.1 _ _ q'
      have ne : f (38 + 16 * e + (p + bt_ (e = d) 1)) ≠ t0 := fun z => by
        have := I.2.2.2.2.2.1 _ _ _ _ q' q0 (by rw [Int.add_zero, e0]; exact z)
        rw [bt_t this.1] at this
        omega
      rw [show 38 + 16 * e + (p + bt_ (e = d) 1) = 38 + 16 * e + p + bt_ (e = d) 1 by omega] at D1 ne
      rw [hq, (ht _ D1.1 (by omega)).2.2.2.2.2, if_neg ne]
      have := vb _ _ q'
      rwa [show 38 + 16 * e + (p + bt_ (e = d) 1) = 38 + 16 * e + p + bt_ (e = d) 1 by omega] at this
  · rw [h7, h11, h12, h13, vc]
    exact (sA_same _ (fun t x y => (ht t x (by omega)).2.2.1)).symm
  · have V1 := ve e x y
    have bb := bt_01 (e = d)
    rw [(hk e x y).1, (hk e x y).2]
    omega
/-- nothing but looks, accounts and the turns -/
theorem Iv2_same {f g : Int → Int} (I : Inv f) (V : Iv2 f) (h6 : f 6 ≤ g 6) (h1 : ∀ j, 7 ≤ j → j < 14 → j ≠ 10 → g j = f j) (h2 : ∀ d, 0 ≤ d → d < 3 → g (27 + 4 * d) = f (27 + 4 * d) ∧ f (28 + 4 * d) ≤ g (28 + 4 * d) ∧ g (29 + 4 * d) = f (29 + 4 * d)) (h3 : ∀ j, 38 ≤ j → j < 86 → g j = f j)
    (h4 : ∀ t, 0 ≤ t → t < 64 → (f (90 + 9 * t) = 2 → fmk g t = fmk f t) ∧ g (90 + 9 * t) = f (90 + 9 * t) ∧ g (91 + 9 * t) = f (91 + 9 * t) ∧ g (92 + 9 * t) = f (92 + 9 * t) ∧ g (93 + 9 * t) = f (93 + 9 * t) ∧ g (94 + 9 * t) = f (94 + 9 * t)) : Iv2 g := by
  have i7 := I.i7
  have hle := fun e a b => I.le (d := e) a b
  obtain ⟨va, vb, vc, vd, ve, vf⟩ := V
  have k0 := (h2 0 (by omega) (by omega)).2.2
  have k1 := (h2 1 (by omega) (by omega)).2.2
  have k2 := (h2 2 (by omega) (by omega)).2.2
  have m0 : f (29 + 4 * 0) = f 29 := rfl
  have m1 : f (29 + 4 * 1) = f 33 := rfl
  have m2 : f (29 + 4 * 2) = f 37 := rfl
  have n0 : g (29 + 4 * 0) = g 29 := rfl
  have n1 : g (29 + 4 * 1) = g 33 := rfl
  have n2 : g (29 + 4 * 2) = g 37 := rfl
  have e7 := h1 7 (by omega) (by omega) (by omega)
  have e8 := h1 8 (by omega) (by omega) (by omega)
  have e9 := h1 9 (by omega) (by omega) (by omega)
  have e11 := h1 11 (by omega) (by omega) (by omega)
  have e12 := h1 12 (by omega) (by omega) (by omega)
  have e13 := h1 13 (by omega) (by omega) (by omega)
  refine ⟨fun t x y => ?_, fun e p q => ?_, ?_, by omega, fun e x y => ?_, by omega⟩
  · rw [e7] at y
    obtain ⟨r, r0, r1, r2, r3, r4⟩ := h4 t x (by omega)
    have V1 := va t x y
    unfold IvT at V1 ⊢
    rw [r0, r1, r2, r3, r4]
    refine ⟨V1.1, by omega, V1.2.2.1, V1.2.2.2.1, ?_⟩
    by_cases z : f (90 + 9 * t) = 2
    · rw [if_pos z, r z]
      have := V1.2.2.2.2
      rwa [if_pos z] at this
    · rw [if_neg z]
      have := V1.2.2.2.2
      rwa [if_neg z] at this
  · obtain ⟨x, y, u, v⟩ := q
    rw [(h2 e x y).1] at v
    have := hle e x y
    have D1 := I.2.2.2.2.1 e p ⟨x, y, u, v⟩
    rw [h3 (38 + 16 * e + p) (by omega) (by omega), (h4 _ D1.1 (by omega)).2.2.2.2.2]
    exact vb e p ⟨x, y, u, v⟩
  · rw [e7, e11, e12, e13, vc]
    exact (sA_same _ (fun t x y => (h4 t x (by omega)).2.2.1)).symm
  · have V1 := ve e x y
    have := h2 e x y
    omega
theorem lkd_Iv2 {f : Int → Int} {d : Int} (hd : 0 ≤ d ∧ d < 3) (I : Inv f) (V : Iv2 f) : Iv2 (lkd f d) := by
  have o : ∀ j, j ≠ 28 + 4 * d → lkd f d j = f j := fun j h => lkd_o h
  refine Iv2_same I V (by rw [o 6 (by omega)]; omega) (fun j _ _ _ => o j (by omega)) (fun e x y => ⟨o _ (by omega), ?_, o _ (by omega)⟩) (fun j _ _ => o j (by omega)) (fun t _ _ => ⟨fun _ => (fmk_cg (o _ (by omega)) (o _ (by omega)) (o _ (by omega))).1, o _ (by omega), o _ (by omega), o _ (by omega), o _ (by omega), o _ (by omega)⟩)
  by_cases z : e = d
  · subst z
    show _ ≤ us f _ _ _
    rw [us_s]
    omega
  · rw [o _ (by omega)]
    omega
theorem pss_p {f : Int → Int} {d t w e : Int} (ht : 0 ≤ t) (hd : 0 ≤ d ∧ d < 3) (he : 0 ≤ e ∧ e < 3) : pss f d t w (29 + 4 * e) = f (29 + 4 * e) + bt_ (e = d) 1 := by
  unfold pss
  rw [us_n (by split <;> omega)]
  by_cases z : e = d
  · subst z
    rw [us_s, bt_t rfl]
  · rw [us_n (by omega), us_n (by omega), bt_f z]
    omega
theorem tks_a {f : Int → Int} {t c w s : Int} (hw : w < 86) (hs : 0 ≤ s) : tks f t c w (91 + 9 * s) = if s = t then f (91 + 9 * s) + c else f (91 + 9 * s) := by
  unfold tks
  rw [us_n (by omega)]
  by_cases z : s = t
  · subst z
    rw [us_s, if_pos rfl]
  · rw [us_n (by omega), if_neg z]
theorem fnm_bd (f : Int → Int) (t : Int) : 0 ≤ fnm f t ∧ fnm f t ≤ 6 := by
  unfold fnm ms
  have h0 := bt_01 (mo f t 0)
  have h1 := bt_01 (mo f t 1)
  have h2 := bt_01 (mo f t 2)
  have h3 := bt_01 (mo f t 3)
  have h4 := bt_01 (mo f t 4)
  have h5 := bt_01 (mo f t 5)
  omega
/-- how a step goes on: what only grows, what stays -/
def Stq (f g : Int → Int) (d n : Int) : Prop := f 8 + f 9 ≤ g 8 + g 9 ∧ g 13 = f 13 ∧ (∀ e, 0 ≤ e → e < 3 → g (28 + 4 * e) ≤ f (28 + 4 * e) + bt_ (e = d) n) ∧ ∀ t, 0 ≤ t → t < 64 → f (90 + 9 * t) ≠ 0 → g (90 + 9 * t) = f (90 + 9 * t)
theorem Stq.rf {f : Int → Int} {d : Int} {n : Int} (hn : 0 ≤ n) : Stq f f d n := ⟨Int.le_refl _, rfl, fun e _ _ => by
  have : 0 ≤ bt_ (e = d) n := by
    by_cases z : e = d
    · rw [bt_t z]; exact hn
    · rw [bt_f z]; omega
  omega, fun _ _ _ _ => rfl⟩
theorem Stq.tr {f g h : Int → Int} {d n m : Int} (a : Stq f g d n) (b : Stq g h d m) : Stq f h d (n + m) := by
  refine ⟨Int.le_trans a.1 b.1, b.2.1.trans a.2.1, fun e x y => ?_, fun t x y z => ?_⟩
  · have a1 := a.2.2.1 e x y
    have b1 := b.2.2.1 e x y
    by_cases z : e = d
    · rw [bt_t z] at a1 b1 ⊢
      omega
    · rw [bt_f z] at a1 b1 ⊢
      omega
  · have := a.2.2.2 t x y z
    rw [b.2.2.2 t x y (by rw [this]; exact z), this]
set_option maxHeartbeats 1000000 in
theorem lkg_Iv2 {f : Int → Int} {d o : Int} (hd : 0 ≤ d ∧ d < 3) (hn : 1 ≤ f (27 + 4 * d)) (I : Inv f) (V : Iv2 f) (hS : ¬ lkS f d o) : Iv2 (lkg f d) ∧ Stq f (lkg f d) d 1 := by
  have hle := fun e a b => I.le (d := e) a b
  have m16 := (hle d hd.1 hd.2).2
  have i7 := I.i7
  obtain ⟨⟨⟨-, c1, c2, -⟩, -⟩, -⟩ := id I
  obtain ⟨iB, -, iC, i16, iD, -⟩ := id I
  have q0 := iD d 0 ⟨hd.1, hd.2, by omega, by omega⟩
  rw [Int.add_zero] at q0
  obtain ⟨t0, ht0⟩ : ∃ t0, f (38 + 16 * d) = t0 := ⟨_, rfl⟩
  rw [ht0] at q0
  have hz0 : f (38 + 16 * d + 0) = t0 := by rw [Int.add_zero, ht0]
  obtain ⟨Y, hY⟩ : ∃ Y, Y = rmv (lkd f d) d 0 := ⟨_, rfl⟩
  have yo : ∀ j, j ≠ 27 + 4 * d → j ≠ 28 + 4 * d → (j < 38 ∨ 86 ≤ j) → Y j = f j := fun j a b c => by rw [hY]; exact rl_o hd m16 a b c
  have yl : ∀ e, 0 ≤ e → e < 3 → Y (27 + 4 * e) = f (27 + 4 * e) - bt_ (e = d) 1 := fun e a b => by rw [hY, rmv_l hd ⟨a, b⟩ (by omega), lkd_o (by omega)]
  have yk : ∀ e, 0 ≤ e → e < 3 → Y (28 + 4 * e) = f (28 + 4 * e) + bt_ (e = d) 1 := fun e a b => by
    by_cases z : e = d
    · subst z
      rw [hY, rmv_o hd (by omega) (by rw [lkd_o (by omega)]; exact m16) (by omega) (by omega), bt_t rfl]
      exact us_s
    · rw [yo _ (by omega) (by omega) (by omega), bt_f z]
      omega
  have yq : ∀ e p, 0 ≤ e → e < 3 → 0 ≤ p → p < f (27 + 4 * e) - bt_ (e = d) 1 → Y (38 + 16 * e + p) = f (38 + 16 * e + p + bt_ (e = d ∧ 0 ≤ p) 1) := by
    intro e p a b c z
    have y := bt_01 (e = d ∧ 0 ≤ p)
    rw [hY, rmv_q hd ⟨a, b⟩ c (by omega) (fun e a b => by rw [lkd_o (by omega)]; exact hle e a b) (by rw [lkd_o (by omega)]; exact z), lkd_o (by omega)]
  have yf : fmk Y t0 = fmk f t0 ∧ fnm Y t0 = fnm f t0 := fmk_cg (yo _ (by omega) (by omega) (by omega)) (yo _ (by omega) (by omega) (by omega)) (yo _ (by omega) (by omega) (by omega))
  have hst : ∀ (g : Int → Int) (w : Int), g 8 = f 8 + bt_ (w = 1) 1 → g 9 = f 9 + bt_ (w = 2) 1 → g 13 = f 13 → (∀ e, 0 ≤ e → e < 3 → g (28 + 4 * e) = f (28 + 4 * e) + bt_ (e = d) 1) → (∀ t, 0 ≤ t → t < 64 → g (90 + 9 * t) = if t = t0 then w else f (90 + 9 * t)) → Stq f g d 1 := fun g w a b c e k => by
    have x1 := bt_01 (w = 1)
    have x2 := bt_01 (w = 2)
    refine ⟨by omega, c, fun u x y => by rw [e u x y]; omega, fun t x y z => ?_⟩
    rw [k t x y, if_neg (fun u => z (by rw [u]; exact q0.2.2))]
  by_cases hm : msk f t0 = 0
  · rw [lkg_1 ht0 hm, ← hY]
    have po : ∀ j, j ≠ 90 + 9 * t0 → j ≠ 29 + 4 * d → j ≠ 8 → j ≠ 9 → pss Y d t0 1 j = Y j := fun j a b c e => pss_o a b c e
    have p8 := pss_8 (f := Y) q0.1 hd (w := 1) (Or.inl rfl)
    have hF := fun s a => pss_f (f := Y) (t := t0) (w := 1) (s := s) a hd
    have pk : ∀ e, 0 ≤ e → e < 3 → pss Y d t0 1 (28 + 4 * e) = f (28 + 4 * e) + bt_ (e = d) 1 := fun e a b => by rw [po _ (by omega) (by omega) (by omega) (by omega), yk e a b]
    have r8 : pss Y d t0 1 8 = f 8 + bt_ ((1 : Int) = 1) 1 := by rw [p8.1, yo 8 (by omega) (by omega) (by omega)]
    have r9 : pss Y d t0 1 9 = f 9 + bt_ ((1 : Int) = 2) 1 := by rw [p8.2, yo 9 (by omega) (by omega) (by omega)]
    have r13 : pss Y d t0 1 13 = f 13 := by rw [po _ (by omega) (by omega) (by omega) (by omega), yo _ (by omega) (by omega) (by omega)]
    have rt : ∀ t, 0 ≤ t → t < 64 → pss Y d t0 1 (90 + 9 * t) = if t = t0 then 1 else f (90 + 9 * t) := fun t a b => by rw [hF t a, yo _ (by omega) (by omega) (by omega)]
    refine ⟨Iv2_pass (w := 1) (m := 0) (a := 0) (b := 0) (z := 1) (p0 := 0) I V hd ⟨by omega, by omega⟩ hz0 (Or.inl rfl) (bt_t (by omega)).symm (by rw [if_neg (by omega)]) (by omega) (by rw [bt_t rfl]; omega) (by rw [bt_f (by omega)]; omega) ?_ ?_ (fun e a b => ?_) (fun e p a b c z => ?_) (fun t a b => ?_) r8 r9 ?_ ?_ r13 (fun e a b => ⟨pk e a b, ?_⟩), hst _ 1 r8 r9 r13 pk rt⟩
    · rw [po _ (by omega) (by omega) (by omega) (by omega), yo _ (by omega) (by omega) (by omega)]
    · rw [po _ (by omega) (by omega) (by omega) (by omega), yo _ (by omega) (by omega) (by omega)]
    · rw [po _ (by omega) (by omega) (by omega) (by omega), yl e a b]
    · have := hle e a b
      have := bt_01 (e = d)
      rw [po _ (by omega) (by omega) (by omega) (by omega), yq e p a b c z]
    · have oo : ∀ k, k ≠ 4 → 1 ≤ k → k ≤ 8 → pss Y d t0 1 (86 + k + 9 * t) = f (86 + k + 9 * t) := fun k h0 h1 h2 => by rw [po _ (by omega) (by omega) (by omega) (by omega), yo _ (by omega) (by omega) (by omega)]
      refine ⟨⟨oo 1 (by omega) (by omega) (by omega), oo 2 (by omega) (by omega) (by omega), oo 3 (by omega) (by omega) (by omega)⟩, rt t a b, ?_, oo 6 (by omega) (by omega) (by omega), ?_, oo 8 (by omega) (by omega) (by omega)⟩
      · refine (oo 5 (by omega) (by omega) (by omega)).trans ?_
        show f (91 + 9 * t) = _
        split <;> first | rfl | omega
      · refine (oo 7 (by omega) (by omega) (by omega)).trans ?_
        show f (93 + 9 * t) = _
        by_cases z : t = t0
        · subst z
          rw [if_pos rfl]
          have := (V.1 t q0.1 q0.2.1).2.2.2.2
          rw [q0.2.2, if_neg (by omega)] at this
          exact this
        · rw [if_neg z]
    · rw [po _ (by omega) (by omega) (by omega) (by omega), yo _ (by omega) (by omega) (by omega)]
      omega
    · rw [po _ (by omega) (by omega) (by omega) (by omega), yo _ (by omega) (by omega) (by omega)]
      omega
    · rw [pss_p q0.1 hd ⟨a, b⟩, yo _ (by omega) (by omega) (by omega)]
  by_cases hs : d ≠ 2 ∧ dbt f t0 ≤ f 0 * (d + 1)
  · rw [lkg_2 ht0 hm hs, ← hY]
    obtain ⟨Z, hZ⟩ : ∃ Z, Z = tks Y t0 (f 1) 11 := ⟨_, rfl⟩
    rw [← hZ]
    have zo : ∀ j, j ≠ 91 + 9 * t0 → j ≠ 11 → Z j = Y j := fun j a b => by rw [hZ]; exact tks_o a b
    have za : ∀ s, 0 ≤ s → Z (91 + 9 * s) = if s = t0 then f (91 + 9 * s) + f 1 else f (91 + 9 * s) := fun s a => by rw [hZ, tks_a (by omega) a, yo _ (by omega) (by omega) (by omega)]
    have z11 : Z 11 = f 11 + f 1 := by
      rw [hZ]
      show us _ 11 _ 11 = _
      rw [us_s, yo 11 (by omega) (by omega) (by omega)]
    have po : ∀ j, j ≠ 90 + 9 * t0 → j ≠ 29 + 4 * d → j ≠ 8 → j ≠ 9 → pss Z d t0 1 j = Z j := fun j a b c e => pss_o a b c e
    have p8 := pss_8 (f := Z) q0.1 hd (w := 1) (Or.inl rfl)
    have hF := fun s a => pss_f (f := Z) (t := t0) (w := 1) (s := s) a hd
    have pk : ∀ e, 0 ≤ e → e < 3 → pss Z d t0 1 (28 + 4 * e) = f (28 + 4 * e) + bt_ (e = d) 1 := fun e a b => by rw [po _ (by omega) (by omega) (by omega) (by omega), zo _ (by omega) (by omega), yk e a b]
    have r8 : pss Z d t0 1 8 = f 8 + bt_ ((1 : Int) = 1) 1 := by rw [p8.1, zo _ (by omega) (by omega), yo 8 (by omega) (by omega) (by omega)]
    have r9 : pss Z d t0 1 9 = f 9 + bt_ ((1 : Int) = 2) 1 := by rw [p8.2, zo _ (by omega) (by omega), yo 9 (by omega) (by omega) (by omega)]
    have r13 : pss Z d t0 1 13 = f 13 := by rw [po _ (by omega) (by omega) (by omega) (by omega), zo _ (by omega) (by omega), yo _ (by omega) (by omega) (by omega)]
    have rt : ∀ t, 0 ≤ t → t < 64 → pss Z d t0 1 (90 + 9 * t) = if t = t0 then 1 else f (90 + 9 * t) := fun t a b => by rw [hF t a, zo _ (by omega) (by omega), yo _ (by omega) (by omega) (by omega)]
    refine ⟨Iv2_pass (w := 1) (m := 0) (a := f 1) (b := 0) (z := 1) (p0 := 0) I V hd ⟨by omega, by omega⟩ hz0 (Or.inl rfl) (bt_t (by omega)).symm (by rw [if_neg (by omega)]) (by omega) (by rw [bt_t rfl]; omega) (by rw [bt_f (by omega)]; omega) ?_ ?_ (fun e a b => ?_) (fun e p a b c z => ?_) (fun t a b => ?_) r8 r9 ?_ ?_ r13 (fun e a b => ⟨pk e a b, ?_⟩), hst _ 1 r8 r9 r13 pk rt⟩
    · rw [po _ (by omega) (by omega) (by omega) (by omega), zo _ (by omega) (by omega), yo _ (by omega) (by omega) (by omega)]
    · rw [po _ (by omega) (by omega) (by omega) (by omega), zo _ (by omega) (by omega), yo _ (by omega) (by omega) (by omega)]
    · rw [po _ (by omega) (by omega) (by omega) (by omega), zo _ (by omega) (by omega), yl e a b]
    · have := hle e a b
      have := bt_01 (e = d)
      rw [po _ (by omega) (by omega) (by omega) (by omega), zo _ (by omega) (by omega), yq e p a b c z]
    · have oo : ∀ k, k ≠ 4 → k ≠ 5 → 1 ≤ k → k ≤ 8 → pss Z d t0 1 (86 + k + 9 * t) = f (86 + k + 9 * t) := fun k h0 h01 h1 h2 => by rw [po _ (by omega) (by omega) (by omega) (by omega), zo _ (by omega) (by omega), yo _ (by omega) (by omega) (by omega)]
      refine ⟨⟨oo 1 (by omega) (by omega) (by omega) (by omega), oo 2 (by omega) (by omega) (by omega) (by omega), oo 3 (by omega) (by omega) (by omega) (by omega)⟩, rt t a b, ?_, oo 6 (by omega) (by omega) (by omega) (by omega), ?_, oo 8 (by omega) (by omega) (by omega) (by omega)⟩
      · rw [po _ (by omega) (by omega) (by omega) (by omega), za t a, Int.add_zero]
      · refine (oo 7 (by omega) (by omega) (by omega) (by omega)).trans ?_
        show f (93 + 9 * t) = _
        by_cases z : t = t0
        · subst z
          rw [if_pos rfl]
          have := (V.1 t q0.1 q0.2.1).2.2.2.2
          rw [q0.2.2, if_neg (by omega)] at this
          exact this
        · rw [if_neg z]
    · rw [po _ (by omega) (by omega) (by omega) (by omega), z11]
    · rw [po _ (by omega) (by omega) (by omega) (by omega), zo _ (by omega) (by omega), yo _ (by omega) (by omega) (by omega)]
      omega
    · rw [pss_p q0.1 hd ⟨a, b⟩, zo _ (by omega) (by omega), yo _ (by omega) (by omega) (by omega)]
  by_cases h2 : d = 2
  · subst h2
    rw [lkg_3 ht0 hm, ← hY]
    have fb := fnm_bd f t0
    obtain ⟨bb, hbb⟩ : ∃ bb, bb = f 2 * fnm f t0 := ⟨_, rfl⟩
    have hb0 : 0 ≤ bb ∧ bb ≤ 540 := by
      rw [hbb]
      refine ⟨Int.mul_nonneg (by omega) (by omega), ?_⟩
      exact Int.le_trans (Int.mul_le_mul_of_nonneg_right (show f 2 ≤ 90 by omega) (by omega)) (by omega)
    obtain ⟨Z, hZ⟩ : ∃ Z, Z = us (us (us (us Y (93 + 9 * t0) (fmk Y t0)) (91 + 9 * t0) (Y (91 + 9 * t0) + Y 2 * fnm Y t0)) 12 (Y 12 + Y 2 * fnm Y t0)) 14 (Y 14 + bt_ (fmk Y t0 = 0) 1) := ⟨_, rfl⟩
    have hop : opn Y t0 = pss Z 2 t0 2 := by rw [hZ]; rfl
    rw [hop]
    have zo : ∀ j, j ≠ 91 + 9 * t0 → j ≠ 12 → j ≠ 14 → j ≠ 93 + 9 * t0 → Z j = Y j := fun j a b c e => by rw [hZ, us_n c, us_n b, us_n a, us_n e]
    have za : ∀ s, 0 ≤ s → Z (91 + 9 * s) = if s = t0 then f (91 + 9 * s) + bb else f (91 + 9 * s) := fun s a => by
      rw [hZ, us_n (by omega), us_n (by omega)]
      by_cases z : s = t0
      · subst z
        rw [us_s, if_pos rfl, yf.2, yo _ (by omega) (by omega) (by omega), yo 2 (by omega) (by omega) (by omega), ← hbb]
      · rw [us_n (by omega), us_n (by omega), if_neg z, yo _ (by omega) (by omega) (by omega)]
    have zf : ∀ s, 0 ≤ s → Z (93 + 9 * s) = if s = t0 then fmk f t0 else f (93 + 9 * s) := fun s a => by
      rw [hZ, us_n (by omega), us_n (by omega), us_n (by omega)]
      by_cases z : s = t0
      · subst z
        rw [us_s, if_pos rfl, yf.1]
      · rw [us_n (by omega), if_neg z, yo _ (by omega) (by omega) (by omega)]
    have z12 : Z 12 = f 12 + bb := by
      rw [hZ, us_n (by omega), us_s, yf.2, yo 12 (by omega) (by omega) (by omega), yo 2 (by omega) (by omega) (by omega), ← hbb]
    have po : ∀ j, j ≠ 90 + 9 * t0 → j ≠ 29 + 4 * 2 → j ≠ 8 → j ≠ 9 → pss Z 2 t0 2 j = Z j := fun j a b c e => pss_o a b c e
    have p8 := pss_8 (f := Z) q0.1 hd (w := 2) (Or.inr rfl)
    have hF := fun s a => pss_f (f := Z) (t := t0) (w := 2) (s := s) a hd
    have pk : ∀ e, 0 ≤ e → e < 3 → pss Z 2 t0 2 (28 + 4 * e) = f (28 + 4 * e) + bt_ (e = 2) 1 := fun e a b => by rw [po _ (by omega) (by omega) (by omega) (by omega), zo _ (by omega) (by omega) (by omega) (by omega), yk e a b]
    have r8 : pss Z 2 t0 2 8 = f 8 + bt_ ((2 : Int) = 1) 1 := by rw [p8.1, zo _ (by omega) (by omega) (by omega) (by omega), yo 8 (by omega) (by omega) (by omega)]
    have r9 : pss Z 2 t0 2 9 = f 9 + bt_ ((2 : Int) = 2) 1 := by rw [p8.2, zo _ (by omega) (by omega) (by omega) (by omega), yo 9 (by omega) (by omega) (by omega)]
    have r13 : pss Z 2 t0 2 13 = f 13 := by rw [po _ (by omega) (by omega) (by omega) (by omega), zo _ (by omega) (by omega) (by omega) (by omega), yo _ (by omega) (by omega) (by omega)]
    have rt : ∀ t, 0 ≤ t → t < 64 → pss Z 2 t0 2 (90 + 9 * t) = if t = t0 then 2 else f (90 + 9 * t) := fun t a b => by rw [hF t a, zo _ (by omega) (by omega) (by omega) (by omega), yo _ (by omega) (by omega) (by omega)]
    refine ⟨Iv2_pass (w := 2) (m := fmk f t0) (a := 0) (b := bb) (z := 1) (p0 := 0) I V hd ⟨by omega, by omega⟩ hz0 (Or.inr (Or.inl rfl)) (bt_t (by omega)).symm (by rw [if_pos rfl]) (fun _ => rfl) (by rw [bt_f (by omega)]; omega) (by rw [bt_t rfl]; omega) ?_ ?_ (fun e a b => ?_) (fun e p a b c z => ?_) (fun t a b => ?_) r8 r9 ?_ ?_ r13 (fun e a b => ⟨pk e a b, ?_⟩), hst _ 2 r8 r9 r13 pk rt⟩
    · rw [po _ (by omega) (by omega) (by omega) (by omega), zo _ (by omega) (by omega) (by omega) (by omega), yo _ (by omega) (by omega) (by omega)]
    · rw [po _ (by omega) (by omega) (by omega) (by omega), zo _ (by omega) (by omega) (by omega) (by omega), yo _ (by omega) (by omega) (by omega)]
    · rw [po _ (by omega) (by omega) (by omega) (by omega), zo _ (by omega) (by omega) (by omega) (by omega), yl e a b]
    · have := hle e a b
      have := bt_01 (e = 2)
      rw [po _ (by omega) (by omega) (by omega) (by omega), zo _ (by omega) (by omega) (by omega) (by omega), yq e p a b c z]
    · have oo : ∀ k, k ≠ 4 → k ≠ 5 → k ≠ 7 → 1 ≤ k → k ≤ 8 → pss Z 2 t0 2 (86 + k + 9 * t) = f (86 + k + 9 * t) := fun k h0 h01 h02 h1 h2 => by rw [po _ (by omega) (by omega) (by omega) (by omega), zo _ (by omega) (by omega) (by omega) (by omega), yo _ (by omega) (by omega) (by omega)]
      refine ⟨⟨oo 1 (by omega) (by omega) (by omega) (by omega) (by omega), oo 2 (by omega) (by omega) (by omega) (by omega) (by omega), oo 3 (by omega) (by omega) (by omega) (by omega) (by omega)⟩, rt t a b, ?_, oo 6 (by omega) (by omega) (by omega) (by omega) (by omega), ?_, oo 8 (by omega) (by omega) (by omega) (by omega) (by omega)⟩
      · rw [po _ (by omega) (by omega) (by omega) (by omega), za t a, Int.zero_add]
      · rw [po _ (by omega) (by omega) (by omega) (by omega), zf t a]
    · rw [po _ (by omega) (by omega) (by omega) (by omega), zo _ (by omega) (by omega) (by omega) (by omega), yo _ (by omega) (by omega) (by omega)]
      omega
    · rw [po _ (by omega) (by omega) (by omega) (by omega), z12]
    · rw [pss_p q0.1 hd ⟨a, b⟩, zo _ (by omega) (by omega) (by omega) (by omega), yo _ (by omega) (by omega) (by omega)]
  · have hs2 : ¬ dbt f t0 ≤ f 0 * (d + 1) := fun z => hs ⟨h2, z⟩
    rw [lkg_4 ht0 hm h2 hs2, ← hY]
    have e31 : Y (27 + 4 * (d + 1)) = f (27 + 4 * (d + 1)) := by rw [yo _ (by omega) (by omega) (by omega)]
    have y31 := hle (d + 1) (by omega) (by omega)
    have sm : f (27 + 4 * (d + 1)) < 16 := by
      have c0 := (iC 0 (by omega) (by omega)).2.2
      have c1 := (iC 1 (by omega) (by omega)).2.2
      have c2 := (iC 2 (by omega) (by omega)).2.2
      have m0 : f (27 + 4 * 0) = f 27 := rfl
      have m1 : f (27 + 4 * 1) = f 31 := rfl
      have m2 : f (27 + 4 * 2) = f 35 := rfl
      have : d = 0 ∨ d = 1 := by omega
      rcases this with rfl | rfl
      · show f (27 + 4 * 1) < 16
        omega
      · show f (27 + 4 * 2) < 16
        omega
    obtain ⟨g, hg⟩ : ∃ g, g = us (jn Y (d + 1) t0) (94 + 9 * t0) (f (94 + 9 * t0) + 1) := ⟨_, rfl⟩
    rw [← hg]
    have go : ∀ j, j ≠ 94 + 9 * t0 → j ≠ 27 + 4 * (d + 1) → j ≠ 38 + 16 * (d + 1) + f (27 + 4 * (d + 1)) → g j = Y j := fun j a b c => by
      rw [hg, us_n a]
      unfold jn
      rw [us_n b, us_n (by rw [e31]; exact c)]
    have gk : ∀ e, 0 ≤ e → e < 3 → g (28 + 4 * e) = f (28 + 4 * e) + bt_ (e = d) 1 := fun e a b => by rw [go _ (by omega) (by omega) (by omega), yk e a b]
    have r8 : g 8 = f 8 := by rw [go _ (by omega) (by omega) (by omega), yo 8 (by omega) (by omega) (by omega)]
    have r9 : g 9 = f 9 := by rw [go _ (by omega) (by omega) (by omega), yo 9 (by omega) (by omega) (by omega)]
    have r13 : g 13 = f 13 := by rw [go _ (by omega) (by omega) (by omega), yo _ (by omega) (by omega) (by omega)]
    have rt : ∀ t, 0 ≤ t → t < 64 → g (90 + 9 * t) = f (90 + 9 * t) := fun t a b => by rw [go _ (by omega) (by omega) (by omega), yo _ (by omega) (by omega) (by omega)]
    refine ⟨Iv2_join I V (by omega) hn ht0 ?_ ?_ (fun e a b => ?_) (fun e p a b c z => ?_) ?_ (fun t a b => ?_) r8 r9 ?_ ?_ r13 (fun e a b => ⟨gk e a b, ?_⟩), by omega, r13, fun e a b => by rw [gk e a b]; omega, fun t a b _ => rt t a b⟩
    · rw [go _ (by omega) (by omega) (by omega), yo _ (by omega) (by omega) (by omega)]
    · rw [go _ (by omega) (by omega) (by omega), yo _ (by omega) (by omega) (by omega)]
    · by_cases e1 : e = d + 1
      · subst e1
        rw [hg, us_n (by omega)]
        unfold jn
        rw [us_s, e31, bt_f (by omega), bt_t rfl]
        omega
      · rw [go _ (by omega) (by omega) (by omega), yl e a b, bt_f e1]
        omega
    · have y := hle e a b
      have y2 := bt_01 (e = d)
      have hne : ¬ (e = d + 1 ∧ p = f (27 + 4 * (d + 1))) := by
        rintro ⟨u, v⟩
        subst u
        rw [bt_f (by omega)] at z
        omega
      have hne2 : 38 + 16 * e + p ≠ 38 + 16 * (d + 1) + f (27 + 4 * (d + 1)) := fun u => hne ⟨by omega, by omega⟩
      rw [go _ (by omega) (by omega) hne2, yq e p a b c z]
      congr 2
      unfold bt_
      by_cases e : e = d
      · rw [if_pos e, if_pos ⟨e, c⟩]
      · rw [if_neg e, if_neg (fun z => e z.1)]
    · rw [hg, us_n (by omega)]
      unfold jn
      rw [e31, us_n (by omega), us_s]
    · have oo : ∀ k, 1 ≤ k → k ≤ 7 → g (86 + k + 9 * t) = f (86 + k + 9 * t) := fun k h1 h2 => by rw [go _ (by omega) (by omega) (by omega), yo _ (by omega) (by omega) (by omega)]
      refine ⟨⟨oo 1 (by omega) (by omega), oo 2 (by omega) (by omega), oo 3 (by omega) (by omega)⟩, rt t a b, oo 5 (by omega) (by omega), oo 6 (by omega) (by omega), oo 7 (by omega) (by omega), ?_⟩
      by_cases z : t = t0
      · subst z
        rw [hg, us_s, if_pos rfl]
      · rw [if_neg z, go _ (by omega) (by omega) (by omega), yo _ (by omega) (by omega) (by omega)]
    · rw [go _ (by omega) (by omega) (by omega), yo _ (by omega) (by omega) (by omega)]
    · rw [go _ (by omega) (by omega) (by omega), yo _ (by omega) (by omega) (by omega)]
    · rw [go _ (by omega) (by omega) (by omega), yo _ (by omega) (by omega) (by omega)]
theorem hnd_Iv2 {d o : Int} (hd : 0 ≤ d ∧ d < 3) : ∀ (n : Nat) (f : Int → Int), Inv f → Iv2 f → Iv2 (hnd d o n f) ∧ Stq f (hnd d o n f) d n
  | 0, f, I, V => ⟨V, Stq.rf (by omega)⟩
  | n + 1, f, I, V => by
    by_cases h : f (27 + 4 * d) ≤ 0
    · rw [hnd_z h]
      exact ⟨V, Stq.rf (by omega)⟩
    · by_cases h2 : lkS f d o
      · rw [hnd_s h h2]
        refine ⟨lkd_Iv2 hd I V, by rw [lkd_o (by omega), lkd_o (by omega)]; omega, lkd_o (by omega), fun e a b => ?_, fun t a b _ => lkd_o (by omega)⟩
        by_cases z : e = d
        · subst z
          rw [bt_t rfl]
          show us f _ _ _ ≤ _
          rw [us_s]
          omega
        · rw [bt_f z, lkd_o (by omega)]
          omega
      · rw [hnd_g h h2]
        obtain ⟨a, b⟩ := lkg_Iv2 (o := o) hd (by omega) I V h2
        obtain ⟨c, e⟩ := hnd_Iv2 hd n (lkg f d) (lkg_Inv (o := o) hd (by omega) I h2) a
        refine ⟨c, ?_⟩
        have := b.tr e
        rw [show (((n + 1 : Nat) : Int)) = 1 + (n : Int) by omega]
        exact this
