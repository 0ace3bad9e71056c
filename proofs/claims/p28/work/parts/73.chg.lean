/-! WHAT ALWAYS HOLDS stays with every change -/
theorem us_Ok {f : Int → Int} {p v : Int} (O : Ok2 f) (hp : 0 ≤ p ∧ p < 6 ∨ 15 ≤ p ∧ p < 26 ∨ p = 26 ∨ p = 30 ∨ p = 34) (hI : Inv (us f p v)) : Ok2 (us f p v) := by
  obtain ⟨I, V, b1, b2⟩ := O
  have o : ∀ j, j ≠ p → us f p v j = f j := fun j h => us_n h
  refine ⟨hI, Iv2_same I V (by rw [o 6 (by omega)]; omega) (fun j _ _ _ => o j (by omega)) (fun d _ _ => ⟨o _ (by omega), by rw [o _ (by omega)]; omega, o _ (by omega)⟩) (fun j _ _ => o j (by omega)) (fun t _ _ => ⟨fun _ => (fmk_cg (o _ (by omega)) (o _ (by omega)) (o _ (by omega))).1, o _ (by omega), o _ (by omega), o _ (by omega), o _ (by omega), o _ (by omega)⟩), by rw [o 13 (by omega), o 6 (by omega)]; exact b1, fun e x y => by rw [o _ (by omega), o 6 (by omega)]; exact b2 e x y⟩
theorem mnd_Ok {f : Int → Int} {t w k v : Int} (O : Ok2 f) (ht : wtT f t) (hw : w = 0 ∨ w = 1) (hI : Inv (mnd f t w k v)) : Ok2 (mnd f t w k v) := by
  obtain ⟨I, V, b1, b2⟩ := O
  unfold wtT at ht
  have o : ∀ j, j ≠ 87 + 9 * t + w → mnd f t w k v j = f j := fun j h => us_n h
  refine ⟨hI, Iv2_same I V (by rw [o 6 (by omega)]; omega) (fun j _ _ _ => o j (by omega)) (fun d _ _ => ⟨o _ (by omega), by rw [o _ (by omega)]; omega, o _ (by omega)⟩) (fun j _ _ => o j (by omega)) (fun s _ _ => ⟨fun z => ?_, o _ (by omega), o _ (by omega), o _ (by omega), o _ (by omega), o _ (by omega)⟩), by rw [o 13 (by omega), o 6 (by omega)]; exact b1, fun e x y => by rw [o _ (by omega), o 6 (by omega)]; exact b2 e x y⟩
  have : s ≠ t := fun y => by
    subst y
    omega
  exact (fmk_cg (o _ (by omega)) (o _ (by omega)) (o _ (by omega))).1
theorem mnd_id (f : Int → Int) (t k : Int) : mnd f t 0 k (dig (f (87 + 9 * t)) k) = f := by
  funext j
  unfold mnd
  rw [Int.add_zero]
  by_cases e : j = 87 + 9 * t
  · rw [e, us_s, Int.sub_self, Int.zero_mul, Int.add_zero]
  · rw [us_n e]
theorem sbk_Ok {f : Int → Int} {t : Int} (O : Ok2 f) (hw : wtT f t) : Ok2 (sbk f t) ∧ sbk f t 10 = f 10 + 1 ∧ sbk f t (90 + 9 * t) = 3 ∧ sbk f t 6 = f 6 := by
  obtain ⟨I, V, b1, b2⟩ := O
  have hI := sbk_Inv I hw
  have hw' := hw
  unfold wtT at hw'
  have i7 := I.i7
  obtain ⟨d, p, q, hq⟩ := ((I.2.2.2.2.2.2.1 t hw'.1.1 hw'.1.2).2.2 hw'.2).2
  obtain ⟨e1, e2⟩ := I.at q hq
  have e3 := e1 d q.1 q.2.1
  rw [if_pos rfl] at e3
  have hle := fun e a b => I.le (d := e) a b
  have m16 := (hle d q.1 q.2.1).2
  have hd : 0 ≤ d ∧ d < 3 := ⟨q.1, q.2.1⟩
  have q3 := q.2.2.1
  have q4 := q.2.2.2
  obtain ⟨g, hg⟩ : ∃ g, g = sbk f t := ⟨_, rfl⟩
  rw [← hg] at hI ⊢
  have eg : g = us (us (rmv f d p) (90 + 9 * t) 3) 10 (f 10 + 1) := by
    rw [hg]
    unfold sbk
    rw [e2, e3]
  have o : ∀ j, j ≠ 27 + 4 * d → (j < 38 ∨ 86 ≤ j) → j ≠ 90 + 9 * t → j ≠ 10 → g j = f j := fun j a b c e => by
    rw [eg]
    exact sbk_o hd q3 m16 a b c e
  have g10 : g 10 = f 10 + 1 := by rw [eg, us_s]
  have gt : g (90 + 9 * t) = 3 := by rw [eg, us_n (by omega), us_s]
  have g6 := o 6 (by omega) (by omega) (by omega) (by omega)
  refine ⟨⟨hI, Iv2_pass (w := 3) (m := 0) (a := 0) (b := 0) (z := 0) (p0 := p) (t0 := t) I V hd ⟨q3, q4⟩ hq (Or.inr (Or.inr rfl)) (bt_f (by omega)).symm (by rw [if_neg (by omega)]) (by omega) (by rw [bt_f (by omega)]; omega) (by rw [bt_f (by omega)]; omega) g6 (o 7 (by omega) (by omega) (by omega) (by omega)) (fun e a b => ?_) (fun e p' a b c z => ?_) (fun s a b => ?_) (by rw [o 8 (by omega) (by omega) (by omega) (by omega), bt_f (by omega)]; omega) (by rw [o 9 (by omega) (by omega) (by omega) (by omega), bt_f (by omega)]; omega) (by rw [o 11 (by omega) (by omega) (by omega) (by omega)]; omega) (by rw [o 12 (by omega) (by omega) (by omega) (by omega)]; omega) (o 13 (by omega) (by omega) (by omega) (by omega)) (fun e a b => ?_), ?_, fun e a b => ?_⟩, g10, gt, g6⟩
  · rw [eg, us_n (by omega), us_n (by omega), rmv_l hd ⟨a, b⟩ q3]
  · have y := hle e a b
    have y2 := bt_01 (e = d)
    rw [eg, us_n (by omega), us_n (by omega), rmv_q hd ⟨a, b⟩ c q3 (fun e a b => hle e a b) z]
  · have oo : ∀ k, k ≠ 4 → 1 ≤ k → k ≤ 8 → g (86 + k + 9 * s) = f (86 + k + 9 * s) := fun k h0 h1 h2 => o _ (by omega) (by omega) (by omega) (by omega)
    refine ⟨⟨oo 1 (by omega) (by omega) (by omega), oo 2 (by omega) (by omega) (by omega), oo 3 (by omega) (by omega) (by omega)⟩, ?_, ?_, oo 6 (by omega) (by omega) (by omega), ?_, oo 8 (by omega) (by omega) (by omega)⟩
    · by_cases z : s = t
      · rw [z, if_pos rfl, gt]
      · rw [if_neg z, o _ (by omega) (by omega) (by omega) (by omega)]
    · refine (oo 5 (by omega) (by omega) (by omega)).trans ?_
      show f (91 + 9 * s) = _
      split <;> omega
    · refine (oo 7 (by omega) (by omega) (by omega)).trans ?_
      show f (93 + 9 * s) = _
      by_cases z : s = t
      · rw [if_pos z, z]
        have := (V.1 t hw'.1.1 hw'.1.2).2.2.2.2
        rwa [if_neg (by omega)] at this
      · rw [if_neg z]
  · have : bt_ (e = d) (0 : Int) = 0 := by unfold bt_; split <;> rfl
    rw [this, o _ (by omega) (by omega) (by omega) (by omega), o _ (by omega) (by omega) (by omega) (by omega)]
    omega
  · rw [o 13 (by omega) (by omega) (by omega) (by omega), g6]
    exact b1
  · rw [o _ (by omega) (by omega) (by omega) (by omega), g6]
    exact b2 e a b
theorem adm_Ok {f : Int → Int} {c up lo tr : Int} (O : Ok2 f) (hn : ¬ (f 27 + f 31 + f 35 = 16 ∨ f 7 = 64)) (hI : Inv (adm f c up lo tr)) : Ok2 (adm f c up lo tr) ∧ adm f c up lo tr 6 = f 6 := by
  obtain ⟨I, V, b1, b2⟩ := O
  have i7 := I.i7
  have i6 := I.2.1.1
  have i16 := I.2.2.2.1
  have hle := fun e a b => I.le (d := e) a b
  have l0 := hle 0 (by omega) (by omega)
  have l1 := hle 1 (by omega) (by omega)
  have l2 := hle 2 (by omega) (by omega)
  have m0 : f (27 + 4 * 0) = f 27 := rfl
  have m1 : f (27 + 4 * 1) = f 31 := rfl
  have m2 : f (27 + 4 * 2) = f 35 := rfl
  obtain ⟨va, vb, vc, vd, ve, vf⟩ := V
  obtain ⟨g, hg⟩ : ∃ g, g = adm f c up lo tr := ⟨_, rfl⟩
  rw [← hg] at hI ⊢
  obtain ⟨A, hA⟩ : ∃ A, A = adF f c up lo tr := ⟨_, rfl⟩
  have ao : ∀ j, j ≠ 7 → (j < 86 + 9 * f 7 ∨ 95 + 9 * f 7 ≤ j) → A j = f j := fun j a b => by rw [hA]; exact adF_o a b
  have a27 : A 27 = f 27 := ao 27 (by omega) (by omega)
  have eg : g = us (us A (38 + f 27) (f 7)) 27 (f 27 + 1) := by
    rw [hg]
    unfold adm jn
    rw [← hA]
    show us (us A (38 + 16 * 0 + A 27) (f 7)) (27 + 4 * 0) (A 27 + 1) = _
    rw [a27]
    rfl
  have go : ∀ j, j ≠ 27 → j ≠ 38 + f 27 → g j = A j := fun j a b => by rw [eg, us_n a, us_n b]
  have o : ∀ j, j ≠ 27 → j ≠ 38 + f 27 → j ≠ 7 → (j < 86 + 9 * f 7 ∨ 95 + 9 * f 7 ≤ j) → g j = f j := fun j a b c d => (go j a b).trans (ao j c d)
  have g7 : g 7 = f 7 + 1 := by
    rw [go 7 (by omega) (by omega), hA]
    unfold adF
    rw [if_pos rfl]
  have g27 : g 27 = f 27 + 1 := by rw [eg, us_s]
  have gq : g (38 + f 27) = f 7 := by rw [eg, us_n (by omega), us_s]
  have gz : ∀ j, 90 + 9 * f 7 ≤ j → j ≤ 94 + 9 * f 7 → j ≠ 92 + 9 * f 7 → g j = 0 := fun j a b c => by
    rw [go j (by omega) (by omega), hA]
    unfold adF
    rw [if_neg (by omega), if_neg (by omega), if_neg (by omega), if_neg (by omega), if_neg (by omega), if_neg c, if_pos ⟨a, b⟩]
  have g92 : g (92 + 9 * f 7) = f 6 := by
    rw [go _ (by omega) (by omega), hA]
    unfold adF
    rw [if_neg (by omega), if_neg (by omega), if_neg (by omega), if_neg (by omega), if_neg (by omega), if_pos rfl]
  have g6 := o 6 (by omega) (by omega) (by omega) (by omega)
  refine ⟨⟨hI, ⟨fun t x y => ?_, fun d p q => ?_, ?_, ?_, fun d x y => ?_, ?_⟩, ?_, fun d x y => ?_⟩, g6⟩
  · rw [g7] at y
    unfold IvT
    by_cases z : t = f 7
    · subst z
      rw [gz (91 + 9 * f 7) (by omega) (by omega) (by omega), g92, gz (94 + 9 * f 7) (by omega) (by omega) (by omega), gz (90 + 9 * f 7) (by omega) (by omega) (by omega), gz (93 + 9 * f 7) (by omega) (by omega) (by omega), g6]
      exact ⟨by omega, by omega, by omega, fun z => by omega, rfl⟩
    · have V1 := va t x (by omega)
      unfold IvT at V1
      have oo : ∀ k, 0 ≤ k → k ≤ 8 → g (86 + k + 9 * t) = f (86 + k + 9 * t) := fun k h1 h2 => o _ (by omega) (by omega) (by omega) (by omega)
      have o1 : g (87 + 9 * t) = f (87 + 9 * t) := oo 1 (by omega) (by omega)
      have o2 : g (88 + 9 * t) = f (88 + 9 * t) := oo 2 (by omega) (by omega)
      have o3 : g (89 + 9 * t) = f (89 + 9 * t) := oo 3 (by omega) (by omega)
      have o4 : g (90 + 9 * t) = f (90 + 9 * t) := oo 4 (by omega) (by omega)
      have o5 : g (91 + 9 * t) = f (91 + 9 * t) := oo 5 (by omega) (by omega)
      have o6 : g (92 + 9 * t) = f (92 + 9 * t) := oo 6 (by omega) (by omega)
      have o7 : g (93 + 9 * t) = f (93 + 9 * t) := oo 7 (by omega) (by omega)
      have o8 : g (94 + 9 * t) = f (94 + 9 * t) := oo 8 (by omega) (by omega)
      rw [o4, o5, o6, o7, o8, g6, (fmk_cg o1 o2 o3).1]
      exact V1
  · obtain ⟨x, y, u, v⟩ := q
    by_cases z : d = 0
    · subst z
      have v : p < g 27 := v
      rw [g27] at v
      show g (94 + 9 * g (38 + 16 * 0 + p)) = 0
      rw [show (38 : Int) + 16 * 0 + p = 38 + p by omega]
      by_cases z2 : p = f 27
      · rw [z2, gq, gz _ (by omega) (by omega) (by omega)]
      · have q' : Qv f 0 p := ⟨by omega, by omega, u, by rw [m0]; omega⟩
        have D1 := I.2.2.2.2.1 _ _ q'
        rw [show (38 : Int) + 16 * 0 + p = 38 + p by omega] at D1
        rw [o (38 + p) (by omega) (by omega) (by omega) (by omega), o _ (by omega) (by omega) (by omega) (by omega)]
        have := vb _ _ q'
        rwa [show (38 : Int) + 16 * 0 + p = 38 + p by omega] at this
    · rw [o _ (by omega) (by omega) (by omega) (by omega)] at v
      have q' : Qv f d p := ⟨x, y, u, v⟩
      have D1 := I.2.2.2.2.1 _ _ q'
      have := hle d x y
      rw [o (38 + 16 * d + p) (by omega) (by omega) (by omega) (by omega), o _ (by omega) (by omega) (by omega) (by omega)]
      exact vb _ _ q'
  · rw [g7, o 11 (by omega) (by omega) (by omega) (by omega), o 12 (by omega) (by omega) (by omega) (by omega), o 13 (by omega) (by omega) (by omega) (by omega), vc, show (f 7 + 1).toNat = (f 7).toNat + 1 by omega]
    show _ = sA g (f 7).toNat + g (91 + 9 * (((f 7).toNat : Nat) : Int))
    rw [show (((f 7).toNat : Nat) : Int) = f 7 by omega, gz (91 + 9 * f 7) (by omega) (by omega) (by omega), sA_same (f := f) (g := g) _ (fun t a b => o _ (by omega) (by omega) (by omega) (by omega))]
    omega
  · rw [o 11 (by omega) (by omega) (by omega) (by omega), o 12 (by omega) (by omega) (by omega) (by omega), o 13 (by omega) (by omega) (by omega) (by omega), o 8 (by omega) (by omega) (by omega) (by omega), o 9 (by omega) (by omega) (by omega) (by omega)]
    exact vd
  · rw [o _ (by omega) (by omega) (by omega) (by omega), o _ (by omega) (by omega) (by omega) (by omega)]
    exact ve d x y
  · rw [o 29 (by omega) (by omega) (by omega) (by omega), o 33 (by omega) (by omega) (by omega) (by omega), o 37 (by omega) (by omega) (by omega) (by omega), o 8 (by omega) (by omega) (by omega) (by omega), o 9 (by omega) (by omega) (by omega) (by omega)]
    exact vf
  · rw [o 13 (by omega) (by omega) (by omega) (by omega), g6]
    exact b1
  · rw [o _ (by omega) (by omega) (by omega) (by omega), g6]
    exact b2 d x y
