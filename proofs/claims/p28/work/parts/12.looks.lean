theorem mul_bd {a b A B : Int} (h1 : 0 ≤ a ∧ a ≤ A) (h2 : 0 ≤ b ∧ b ≤ B) : 0 ≤ a * b ∧ a * b ≤ A * B := ⟨Int.mul_nonneg h1.1 h2.1, Int.mul_le_mul h1.2 h2.2 h2.1 (Int.le_trans h1.1 h1.2)⟩
theorem dw_bd {f : Int → Int} (h : Bd f) {t k : Int} (ht : 0 ≤ t ∧ t < 64) (hk : 0 ≤ k ∧ k < 6) : 0 ≤ dw f t k ∧ dw f t k ≤ 81 := by
  obtain ⟨c0, c1, c2, c3⟩ := h.2.2.2 t ht.1 ht.2
  have a := ds_01 f t k
  have b := df_bd (f := f) (t := t) (k := k) c1.1 c2.1
  have c := h.2.1 k hk.1 hk.2
  exact mul_bd (A := 9) (B := 9) (by have := mul_bd a b; omega) ⟨by omega, c.2⟩
theorem dbt_bd {f : Int → Int} (h : Bd f) {t : Int} (ht : 0 ≤ t ∧ t < 64) : 0 ≤ dbt f t ∧ dbt f t ≤ 500 := by
  obtain ⟨c0, c1, c2, c3⟩ := h.2.2.2 t ht.1 ht.2
  have a := h.2.2.1 _ c0.1 c0.2
  have w0 := dw_bd h ht (k := 0) (by omega)
  have w1 := dw_bd h ht (k := 1) (by omega)
  have w2 := dw_bd h ht (k := 2) (by omega)
  have w3 := dw_bd h ht (k := 3) (by omega)
  have w4 := dw_bd h ht (k := 4) (by omega)
  have w5 := dw_bd h ht (k := 5) (by omega)
  unfold dbt
  split <;> omega
theorem Bd_keep {f g : Int → Int} (h : Bd f) (h1 : ∀ j, 0 ≤ j → j < 6 → g j = f j) (h2 : ∀ j, 15 ≤ j → j < 26 → g j = f j) (h3 : ∀ t, 0 ≤ t → t < 64 → g (86 + 9 * t) = f (86 + 9 * t) ∧ g (87 + 9 * t) = f (87 + 9 * t) ∧ g (88 + 9 * t) = f (88 + 9 * t) ∧ g (89 + 9 * t) = f (89 + 9 * t)) : Bd g := by
  obtain ⟨a, b, c, d⟩ := h
  refine ⟨?_, fun k k0 k1 => ?_, fun k k0 k1 => ?_, fun t t0 t1 => ?_⟩
  · rw [h1 0 (by omega) (by omega), h1 1 (by omega) (by omega), h1 2 (by omega) (by omega), h1 3 (by omega) (by omega), h1 4 (by omega) (by omega), h1 5 (by omega) (by omega)]
    exact a
  · rw [h2 _ (by omega) (by omega)]
    exact b k k0 k1
  · rw [h2 _ (by omega) (by omega)]
    exact c k k0 k1
  · obtain ⟨e0, e1, e2, e3⟩ := h3 t t0 t1
    rw [e0, e1, e2, e3]
    exact d t t0 t1
theorem rmv_o {f : Int → Int} {d p j : Int} (hd : 0 ≤ d ∧ d < 3) (hp : 0 ≤ p) (hm : f (27 + 4 * d) ≤ 16) (h1 : j ≠ 27 + 4 * d) (h2 : j < 38 ∨ 86 ≤ j) : rmv f d p j = f j := by
  unfold rmv
  rw [if_neg h1, if_neg (by omega)]
theorem lkd_o {f : Int → Int} {d j : Int} (h : j ≠ 28 + 4 * d) : lkd f d j = f j := us_n h
theorem rl_o {f : Int → Int} {d j : Int} (hd : 0 ≤ d ∧ d < 3) (hm : f (27 + 4 * d) ≤ 16) (h1 : j ≠ 27 + 4 * d) (h2 : j ≠ 28 + 4 * d) (h3 : j < 38 ∨ 86 ≤ j) : rmv (lkd f d) d 0 j = f j := by
  rw [rmv_o hd (by omega) (by rw [lkd_o (by omega)]; exact hm) h1 h3, lkd_o h2]
theorem rl_Bd {f : Int → Int} {d : Int} (hd : 0 ≤ d ∧ d < 3) (hm : f (27 + 4 * d) ≤ 16) (h : Bd f) : Bd (rmv (lkd f d) d 0) :=
  Bd_keep h (fun j _ _ => rl_o hd hm (by omega) (by omega) (by omega)) (fun j _ _ => rl_o hd hm (by omega) (by omega) (by omega))
    (fun t _ _ => ⟨rl_o hd hm (by omega) (by omega) (by omega), rl_o hd hm (by omega) (by omega) (by omega), rl_o hd hm (by omega) (by omega) (by omega), rl_o hd hm (by omega) (by omega) (by omega)⟩)
abbrev C_X7_looks : Ct := (4, true, fun as M => ∃ (o : Nat) (b : Int) (d : Int) (o0 : Int), as = [wR o, wI b, wI d, wI o0] ∧ (o = 11 ∧ (0 ≤ b ∧ b ≤ 4634) ∧ (0 ≤ d ∧ d < 3) ∧ Bd (sh b (M 12)) ∧ (1 ≤ (sh b (M 12)) (27 + 4 * d) ∧ (sh b (M 12)) (27 + 4 * d) ≤ 16) ∧ (0 ≤ (sh b (M 12)) (38 + 16 * d) ∧ (sh b (M 12)) (38 + 16 * d) < 64) ∧ (d < 2 → 0 ≤ (sh b (M 12)) (31 + 4 * d) ∧ (sh b (M 12)) (31 + 4 * d) < 16) ∧ (sh b (M 12)) (93 + 9 * (sh b (M 12)) (38 + 16 * d)) = 0 ∧ (0 ≤ (sh b (M 12)) 9 ∧ (sh b (M 12)) 9 ≤ 64) ∧ 0 ≤ o0 ∧ o0 ≤ 64), fun as M x M' => ∀ (o : Nat) (b : Int) (d : Int) (o0 : Int), as = [wR o, wI b, wI d, wI o0] → (if lkS (sh b (M 12)) d o0 then 0 = x ∧ mr b M (lkd (sh b (M 12)) d) = M' else 1 = x ∧ mr b M (lkg (sh b (M 12)) d) = M'))
