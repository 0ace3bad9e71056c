def Wn (g f : Int → Int) : Prop := ∀ i, 0 ≤ i → i < 662 → g i = f i
def mnd (f : Int → Int) (t w k v : Int) : Int → Int := us f (87 + 9 * t + w) (f (87 + 9 * t + w) + (v - dig (f (87 + 9 * t + w)) k) * pw k)
theorem pw0 : pw 0 = 100000 := rfl
theorem pw1 : pw 1 = 10000 := rfl
theorem pw2 : pw 2 = 1000 := rfl
theorem pw3 : pw 3 = 100 := rfl
theorem pw4 : pw 4 = 10 := rfl
theorem pw5 : pw 5 = 1 := rfl
theorem dig_set {d v k : Int} (hd : 0 ≤ d ∧ d < 1000000) (hv : 0 ≤ v ∧ v ≤ 9) (hk : 0 ≤ k ∧ k < 6) : (0 ≤ d + (v - dig d k) * pw k ∧ d + (v - dig d k) * pw k < 1000000) ∧ ∀ j, 0 ≤ j ∧ j < 6 → dig (d + (v - dig d k) * pw k) j = if j = k then v else dig d j := by
  refine k6 (P := fun k => (0 ≤ d + (v - dig d k) * pw k ∧ d + (v - dig d k) * pw k < 1000000) ∧ ∀ j, 0 ≤ j ∧ j < 6 → dig (d + (v - dig d k) * pw k) j = if j = k then v else dig d j) hk ?_ ?_ ?_ ?_ ?_ ?_
  all_goals
    refine ⟨?_, fun j hj => ?_⟩
    · simp only [dig, pw0, pw1, pw2, pw3, pw4, pw5]
      omega
    · have : j = 0 ∨ j = 1 ∨ j = 2 ∨ j = 3 ∨ j = 4 ∨ j = 5 := by omega
      rcases this with rfl | rfl | rfl | rfl | rfl | rfl <;> (simp only [dig, pw0, pw1, pw2, pw3, pw4, pw5]; first | (rw [if_pos rfl]; omega) | (rw [if_pos trivial]; omega) | (rw [if_neg (by omega)]; omega) | (simp only [if_true]; omega) | omega)
theorem mnd_Inv {f : Int → Int} {t w k v : Int} (I : Inv f) (ht : 0 ≤ t ∧ t < 64) (hw : w = 0 ∨ w = 1) (hk : 0 ≤ k ∧ k < 6) (hv : 0 ≤ v ∧ v ≤ 9) : Inv (mnd f t w k v) := by
  obtain ⟨iB, i7, iC, i16, iD, iE, iF, g8, g9, g10, g14⟩ := I
  have o : ∀ j, j ≠ 87 + 9 * t + w → mnd f t w k v j = f j := fun j h => us_n h
  refine ⟨?_, by rw [o 6 (by omega), o 7 (by omega)]; exact i7, fun e a b => by rw [o _ (by omega), o _ (by omega)]; exact iC e a b, by rw [o 27 (by omega), o 31 (by omega), o 35 (by omega)]; exact i16, fun e p q => ?_, fun e p e' p' q q' hh => ?_, fun t a b => ?_, ?_, ?_, ?_, ?_⟩
  · obtain ⟨a, b, c, d⟩ := iB
    refine ⟨?_, fun k k0 k1 => ?_, fun k k0 k1 => ?_, fun s s0 s1 => ?_⟩
    · rw [o 0 (by omega), o 1 (by omega), o 2 (by omega), o 3 (by omega), o 4 (by omega), o 5 (by omega)]
      exact a
    · rw [o _ (by omega)]
      exact b k k0 k1
    · rw [o _ (by omega)]
      exact c k k0 k1
    · obtain ⟨d0, d1, d2, d3⟩ := d s s0 s1
      refine ⟨by rw [o _ (by omega)]; exact d0, ?_, ?_, by rw [o _ (by omega)]; exact d3⟩
      · by_cases e : 87 + 9 * s = 87 + 9 * t + w
        · rw [e] at d1 ⊢
          unfold mnd
          rw [us_s]
          exact (dig_set d1 hv hk).1
        · rw [o _ e]
          exact d1
      · by_cases e : 88 + 9 * s = 87 + 9 * t + w
        · rw [e] at d2 ⊢
          unfold mnd
          rw [us_s]
          exact (dig_set d2 hv hk).1
        · rw [o _ e]
          exact d2
  · obtain ⟨a, b, x, y⟩ := q
    have c16 : f (27 + 4 * e) ≤ 16 := by
      have c0 := (iC 0 (by omega) (by omega)).2.2
      have c1 := (iC 1 (by omega) (by omega)).2.2
      have c2 := (iC 2 (by omega) (by omega)).2.2
      have m0 : f (27 + 4 * 0) = f 27 := rfl
      have m1 : f (27 + 4 * 1) = f 31 := rfl
      have m2 : f (27 + 4 * 2) = f 35 := rfl
      have : e = 0 ∨ e = 1 ∨ e = 2 := by omega
      rcases this with rfl | rfl | rfl <;> omega
    rw [o (27 + 4 * e) (by omega)] at y
    have := iD e p ⟨a, b, x, y⟩
    rw [o (38 + 16 * e + p) (by omega), o 7 (by omega), o (90 + 9 * f (38 + 16 * e + p)) (by omega)]
    exact this
  · obtain ⟨a, b, x, y⟩ := q
    obtain ⟨a', b', x', y'⟩ := q'
    have c16 : ∀ e, 0 ≤ e → e < 3 → f (27 + 4 * e) ≤ 16 := by
      intro e _ _
      have c0 := (iC 0 (by omega) (by omega)).2.2
      have c1 := (iC 1 (by omega) (by omega)).2.2
      have c2 := (iC 2 (by omega) (by omega)).2.2
      have m0 : f (27 + 4 * 0) = f 27 := rfl
      have m1 : f (27 + 4 * 1) = f 31 := rfl
      have m2 : f (27 + 4 * 2) = f 35 := rfl
      have : e = 0 ∨ e = 1 ∨ e = 2 := by omega
      rcases this with rfl | rfl | rfl <;> omega
    have z1 := c16 e a b
    have z2 := c16 e' a' b'
    rw [o (27 + 4 * e) (by omega)] at y
    rw [o (27 + 4 * e') (by omega)] at y'
    rw [o (38 + 16 * e + p) (by omega), o (38 + 16 * e' + p') (by omega)] at hh
    exact iE e p e' p' ⟨a, b, x, y⟩ ⟨a', b', x', y'⟩ hh
  · rw [o 7 (by omega)] at b
    rw [o _ (by omega), o _ (by omega)]
    obtain ⟨r1, r2, r3⟩ := iF t a b
    refine ⟨r1, r2, fun z => ⟨(r3 z).1, ?_⟩⟩
    obtain ⟨e, p, ⟨x1, x2, x3, x4⟩, h2⟩ := (r3 z).2
    have c16 : f (27 + 4 * e) ≤ 16 := by
      have c0 := (iC 0 (by omega) (by omega)).2.2
      have c1 := (iC 1 (by omega) (by omega)).2.2
      have c2 := (iC 2 (by omega) (by omega)).2.2
      have m0 : f (27 + 4 * 0) = f 27 := rfl
      have m1 : f (27 + 4 * 1) = f 31 := rfl
      have m2 : f (27 + 4 * 2) = f 35 := rfl
      have : e = 0 ∨ e = 1 ∨ e = 2 := by omega
      rcases this with rfl | rfl | rfl <;> omega
    exact ⟨e, p, ⟨x1, x2, x3, by rw [o (27 + 4 * e) (by omega)]; exact x4⟩, by rw [o _ (by omega)]; exact h2⟩
  · rw [o 8 (by omega), o 7 (by omega), g8]
    exact (cF_same _ (fun t a b => o _ (by omega))).symm
  · rw [o 9 (by omega), o 7 (by omega), g9]
    exact (cF_same _ (fun t a b => o _ (by omega))).symm
  · rw [o 10 (by omega), o 7 (by omega), g10]
    exact (cF_same _ (fun t a b => o _ (by omega))).symm
  · rw [o 14 (by omega), o 7 (by omega), g14]
    exact (cU_same _ (fun t a b => ⟨o _ (by omega), o _ (by omega)⟩)).symm
def wtT (f : Int → Int) (t : Int) : Prop := (0 ≤ t ∧ t < f 7) ∧ f (90 + 9 * t) = 0
theorem wt_dec (f : Int → Int) (t : Int) : wtT f t ∨ ¬ wtT f t := Classical.em _
abbrev C_X7_mend : Ct := (5, true, fun as M => ∃ (o : Nat) (t : Int) (w : Int) (k : Int) (v : Int), as = [wR o, wI t, wI w, wI k, wI v] ∧ (o = 11 ∧ (inr t ∧ inr w ∧ inr k ∧ inr v) ∧ Inv (M 12) ∧ 0 ≤ M 11 1 ∧ M 11 1 ≤ 4), fun as M x M' => ∀ (o : Nat) (t : Int) (w : Int) (k : Int) (v : Int), as = [wR o, wI t, wI w, wI k, wI v] → ((¬ (wtT (M 12) t ∧ 0 ≤ k ∧ k < 6) ∧ x = -1 ∧ M = M') ∨ ((wtT (M 12) t ∧ 0 ≤ k ∧ k < 6) ∧ ¬ ((w = 0 ∨ w = 1) ∧ 0 ≤ v ∧ v ≤ 9) ∧ x = -2 ∧ M = M') ∨ ((wtT (M 12) t ∧ 0 ≤ k ∧ k < 6) ∧ ((w = 0 ∨ w = 1) ∧ 0 ≤ v ∧ v ≤ 9) ∧ ∃ g, Wn g (M 12) ∧ x = dbt (mnd g t w k v) t ∧ Chg M M' (mnd g t w k v) ∧ Fr M M' ∧ ∀ k, k ≠ 1 → M' 11 k = M 11 k)))
def sbk (f : Int → Int) (t : Int) : Int → Int := us (us (rmv f (dko f t 3) (plD f (dko f t 3) t)) (90 + 9 * t) 3) 10 (f 10 + 1)
theorem sbk_o {f : Int → Int} {t d p j : Int} (hd : 0 ≤ d ∧ d < 3) (hp : 0 ≤ p) (hm : f (27 + 4 * d) ≤ 16) (h1 : j ≠ 27 + 4 * d) (h2 : j < 38 ∨ 86 ≤ j) (h3 : j ≠ 90 + 9 * t) (h4 : j ≠ 10) : us (us (rmv f d p) (90 + 9 * t) 3) 10 (f 10 + 1) j = f j := by
  rw [us_n h4, us_n h3, rmv_o hd hp hm h1 h2]
theorem sbk_Inv {f : Int → Int} {t : Int} (I : Inv f) (hw : wtT f t) : Inv (sbk f t) := by
  obtain ⟨d, p, q, hq⟩ := ((I.2.2.2.2.2.2.1 t hw.1.1 hw.1.2).2.2 hw.2).2
  obtain ⟨e1, e2⟩ := I.at q hq
  have e3 := e1 d q.1 q.2.1
  rw [if_pos rfl] at e3
  unfold sbk
  rw [e2, e3]
  have hle := fun e a b => I.le (d := e) a b
  have m16 := (hle d q.1 q.2.1).2
  have hd : 0 ≤ d ∧ d < 3 := ⟨q.1, q.2.1⟩
  have q3 := q.2.2.1
  have q4 := q.2.2.2
  have i7 := I.2.1
  have hw1 := hw.1
  have o : ∀ j, j ≠ 27 + 4 * d → (j < 38 ∨ 86 ≤ j) → j ≠ 90 + 9 * t → j ≠ 10 → us (us (rmv f d p) (90 + 9 * t) 3) 10 (f 10 + 1) j = f j := fun j a b c e => sbk_o hd q3 m16 a b c e
  refine Inv_pass (w := 3) (m := 0) I hd (by omega) (by omega) (by omega) p ⟨q3, q4⟩ ?_ (o 6 (by omega) (by omega) (by omega) (by omega)) (o 7 (by omega) (by omega) (by omega) (by omega)) (fun e a b => o _ (by omega) (by omega) (by omega) (by omega)) (fun e a b => ?_) (fun e p' a b c z => ?_) (fun s a b => ?_) (fun s a b => ?_) ?_ ?_ ?_ ?_
  · exact Bd_keep I.1 (fun j _ _ => o j (by omega) (by omega) (by omega) (by omega)) (fun j _ _ => o j (by omega) (by omega) (by omega) (by omega)) (fun s _ _ => ⟨o _ (by omega) (by omega) (by omega) (by omega), o _ (by omega) (by omega) (by omega) (by omega), o _ (by omega) (by omega) (by omega) (by omega), o _ (by omega) (by omega) (by omega) (by omega)⟩)
  · rw [us_n (by omega), us_n (by omega), rmv_l hd ⟨a, b⟩ q3]
  · have y := hle e a b
    have y2 := bt_01 (e = d)
    rw [us_n (by omega), us_n (by omega), rmv_q hd ⟨a, b⟩ c q3 hle z]
  · rw [us_n (by omega), hq]
    by_cases e : s = t
    · subst e
      rw [us_s, if_pos rfl]
    · rw [us_n (by omega), if_neg e, rmv_o hd q3 m16 (by omega) (by omega)]
  · rw [o _ (by omega) (by omega) (by omega) (by omega), hq]
    by_cases e : s = t
    · rw [if_pos e, e]
      exact ((I.2.2.2.2.2.2.1 t hw.1.1 hw.1.2).2.2 hw.2).1
    · rw [if_neg e]
  · rw [o 8 (by omega) (by omega) (by omega) (by omega), bt_f (by omega)]
    omega
  · rw [o 9 (by omega) (by omega) (by omega) (by omega), bt_f (by omega)]
    omega
  · rw [us_s, bt_t rfl]
  · rw [o 14 (by omega) (by omega) (by omega) (by omega), bt_f (by omega)]
    omega
abbrev C_X7_sendBack : Ct := (2, true, fun as M => ∃ (o : Nat) (t : Int), as = [wR o, wI t] ∧ (o = 11 ∧ inr t ∧ Inv (M 12) ∧ 0 ≤ M 11 1 ∧ M 11 1 ≤ 4), fun as M x M' => ∀ (o : Nat) (t : Int), as = [wR o, wI t] → ((¬ wtT (M 12) t ∧ x = -1 ∧ M = M') ∨ (wtT (M 12) t ∧ ∃ g, Wn g (M 12) ∧ x = g (91 + 9 * t) ∧ Chg M M' (sbk g t) ∧ Fr M M' ∧ ∀ k, k ≠ 1 → M' 11 k = M 11 k)))
abbrev C_X7_turn : Ct := (2, true, fun as M => ∃ (o : Nat) (n : Int), as = [wR o, wI n] ∧ (o = 11 ∧ inr n ∧ Inv (M 12) ∧ M 12 6 ≤ 9999 ∧ 0 ≤ M 11 1 ∧ M 11 1 ≤ 4), fun as M x M' => ∀ (o : Nat) (n : Int), as = [wR o, wI n] → ((¬ (1 ≤ n ∧ n ≤ 99) ∧ x = -2 ∧ M = M') ∨ ((1 ≤ n ∧ n ≤ 99) ∧ 9999 < M 12 6 + n ∧ x = -4 ∧ M = M') ∨ ((1 ≤ n ∧ n ≤ 99) ∧ M 12 6 + n ≤ 9999 ∧ ∃ g, Wn g (M 12) ∧ x = psn n.toNat g ∧ Chg M M' (tnN n.toNat g) ∧ Fr M M' ∧ ∀ k, k ≠ 1 → M' 11 k = M 11 k)))
