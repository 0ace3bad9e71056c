theorem mP_bd (f : Int → Int) (t : Int) : ∀ n, n < 6 → 0 ≤ mP f t n ∧ mP f t n < p2 (n : Int)
  | 0, _ => by show 0 ≤ (0 : Int) ∧ (0 : Int) < 1; omega
  | 1, _ => by
    have h0 := ds_01 f t 0
    show 0 ≤ 0 + ds f t 0 * 1 ∧ 0 + ds f t 0 * 1 < 2
    omega
  | 2, _ => by
    have h0 := ds_01 f t 0
    have h1 := ds_01 f t 1
    show 0 ≤ 0 + ds f t 0 * 1 + ds f t 1 * 2 ∧ 0 + ds f t 0 * 1 + ds f t 1 * 2 < 4
    omega
  | 3, _ => by
    have h0 := ds_01 f t 0
    have h1 := ds_01 f t 1
    have h2 := ds_01 f t 2
    show 0 ≤ 0 + ds f t 0 * 1 + ds f t 1 * 2 + ds f t 2 * 4 ∧ 0 + ds f t 0 * 1 + ds f t 1 * 2 + ds f t 2 * 4 < 8
    omega
  | 4, _ => by
    have h0 := ds_01 f t 0
    have h1 := ds_01 f t 1
    have h2 := ds_01 f t 2
    have h3 := ds_01 f t 3
    show 0 ≤ 0 + ds f t 0 * 1 + ds f t 1 * 2 + ds f t 2 * 4 + ds f t 3 * 8 ∧ 0 + ds f t 0 * 1 + ds f t 1 * 2 + ds f t 2 * 4 + ds f t 3 * 8 < 16
    omega
  | 5, _ => by
    have h0 := ds_01 f t 0
    have h1 := ds_01 f t 1
    have h2 := ds_01 f t 2
    have h3 := ds_01 f t 3
    have h4 := ds_01 f t 4
    show 0 ≤ 0 + ds f t 0 * 1 + ds f t 1 * 2 + ds f t 2 * 4 + ds f t 3 * 8 + ds f t 4 * 16 ∧ 0 + ds f t 0 * 1 + ds f t 1 * 2 + ds f t 2 * 4 + ds f t 3 * 8 + ds f t 4 * 16 < 32
    omega
  | n + 6, h => absurd h (by omega)
theorem mP_6 (f : Int → Int) (t : Int) : mP f t 6 = msk f t := by
  show 0 + ds f t 0 * 1 + ds f t 1 * 2 + ds f t 2 * 4 + ds f t 3 * 8 + ds f t 4 * 16 + ds f t 5 * 32 = _
  unfold msk
  omega
theorem dP_6 (f : Int → Int) (t : Int) : dbt f t = if msk f t = 0 then 0 else dP f t 6 := rfl
theorem rmP_0 {f : Int → Int} {d p : Int} : us f (27 + 4 * d) (f (27 + 4 * d) - 1) = rmP f d p p := by
  funext j
  unfold us rmP
  by_cases h : j = 27 + 4 * d
  · subst h; simp
  · rw [if_neg h, if_neg h, if_neg (by omega)]
theorem rmP_s {f : Int → Int} {d p k : Int} (hd : 0 ≤ d ∧ d < 3) (h1 : 0 ≤ p) (h2 : p ≤ k) : us (rmP f d p k) (38 + 16 * d + k) (f (39 + 16 * d + k)) = rmP f d p (k + 1) := by
  funext j
  unfold us rmP
  by_cases e : j = 38 + 16 * d + k
  · subst e
    rw [if_pos rfl, if_neg (by omega), if_pos (by omega)]
    congr 1
    omega
  · rw [if_neg e]
    by_cases e1 : j = 27 + 4 * d
    · rw [if_pos e1, if_pos e1]
    · rw [if_neg e1, if_neg e1]
      by_cases e2 : 38 + 16 * d + p ≤ j ∧ j < 38 + 16 * d + k
      · rw [if_pos e2, if_pos (by omega)]
      · rw [if_neg e2, if_neg (by omega)]
theorem rmP_e {f : Int → Int} {d p : Int} : rmP f d p (f (27 + 4 * d) - 1) = rmv f d p := by
  funext j
  unfold rmv rmP
  by_cases e1 : j = 27 + 4 * d
  · rw [if_pos e1, if_pos e1]
  · rw [if_neg e1, if_neg e1]
    by_cases e2 : 38 + 16 * d + p ≤ j ∧ j < 38 + 16 * d + (f (27 + 4 * d) - 1)
    · rw [if_pos e2, if_pos (by omega)]
    · rw [if_neg e2, if_neg (by omega)]
theorem rmP_m {f : Int → Int} {d p k : Int} : rmP f d p k (27 + 4 * d) = f (27 + 4 * d) - 1 := if_pos rfl
theorem rmP_q {f : Int → Int} {d p k : Int} (hd : 0 ≤ d ∧ d < 3) (h1 : 0 ≤ k) : rmP f d p k (39 + 16 * d + k) = f (39 + 16 * d + k) := by
  unfold rmP
  rw [if_neg (by omega), if_neg (by omega)]
abbrev C_X7_disagreeing : Ct := (3, true, fun as M => ∃ (o : Nat) (b : Int) (t : Int), as = [wR o, wI b, wI t] ∧ (o = 11 ∧ (0 ≤ b ∧ b ≤ 4634) ∧ (0 ≤ t ∧ t < 64) ∧ Bd (sh b (M 12))), fun as M x M' => ∀ (o : Nat) (b : Int) (t : Int), as = [wR o, wI b, wI t] → ((msk (sh b (M 12)) t) = x ∧ (M) = M'))
abbrev C_X7_doubt : Ct := (3, true, fun as M => ∃ (o : Nat) (b : Int) (t : Int), as = [wR o, wI b, wI t] ∧ (o = 11 ∧ (0 ≤ b ∧ b ≤ 4634) ∧ (0 ≤ t ∧ t < 64) ∧ Bd (sh b (M 12))), fun as M x M' => ∀ (o : Nat) (b : Int) (t : Int), as = [wR o, wI b, wI t] → ((dbt (sh b (M 12)) t) = x ∧ (M) = M'))
abbrev C_X7_takes : Ct := (5, false, fun as M => ∃ (o : Nat) (b : Int) (t : Int) (c : Int) (w : Int), as = [wR o, wI b, wI t, wI c, wI w] ∧ (o = 11 ∧ (0 ≤ b ∧ b ≤ 4634) ∧ (0 ≤ t ∧ t < 64) ∧ (0 ≤ w ∧ w < 86)), fun as M x M' => ∀ (o : Nat) (b : Int) (t : Int) (c : Int) (w : Int), as = [wR o, wI b, wI t, wI c, wI w] → ((mr b M (tks (sh b (M 12)) t c w)) = M'))
abbrev C_X7_removes : Ct := (4, false, fun as M => ∃ (o : Nat) (b : Int) (d : Int) (p : Int), as = [wR o, wI b, wI d, wI p] ∧ (o = 11 ∧ (0 ≤ b ∧ b ≤ 4634) ∧ (0 ≤ d ∧ d < 3) ∧ (0 ≤ p ∧ p < (sh b (M 12)) (27 + 4 * d) ∧ (sh b (M 12)) (27 + 4 * d) ≤ 16)), fun as M x M' => ∀ (o : Nat) (b : Int) (d : Int) (p : Int), as = [wR o, wI b, wI d, wI p] → ((mr b M (rmv (sh b (M 12)) d p)) = M'))
abbrev C_X7_joins : Ct := (4, false, fun as M => ∃ (o : Nat) (b : Int) (d : Int) (t : Int), as = [wR o, wI b, wI d, wI t] ∧ (o = 11 ∧ (0 ≤ b ∧ b ≤ 4634) ∧ (0 ≤ d ∧ d < 3) ∧ (0 ≤ (sh b (M 12)) (27 + 4 * d) ∧ (sh b (M 12)) (27 + 4 * d) < 16)), fun as M x M' => ∀ (o : Nat) (b : Int) (d : Int) (t : Int), as = [wR o, wI b, wI d, wI t] → ((mr b M (jn (sh b (M 12)) d t)) = M'))
abbrev C_X7_passes : Ct := (5, false, fun as M => ∃ (o : Nat) (b : Int) (d : Int) (t : Int) (w : Int), as = [wR o, wI b, wI d, wI t, wI w] ∧ (o = 11 ∧ (0 ≤ b ∧ b ≤ 4634) ∧ (0 ≤ d ∧ d < 3) ∧ (0 ≤ t ∧ t < 64) ∧ (w = 1 ∨ w = 2)), fun as M x M' => ∀ (o : Nat) (b : Int) (d : Int) (t : Int) (w : Int), as = [wR o, wI b, wI d, wI t, wI w] → ((mr b M (pss (sh b (M 12)) d t w)) = M'))
