def plc (f : Int → Int) (d t : Int) : Nat → Int
  | 0 => -6
  | n + 1 => if f (38 + 16 * d + (n : Int)) = t then (n : Int) else plc f d t n
def plD (f : Int → Int) (d t : Int) : Int := plc f d t (f (27 + 4 * d)).toNat
def dko (f : Int → Int) (t : Int) : Nat → Int
  | 0 => -6
  | n + 1 => if plD f (n : Int) t = -6 then dko f t n else (n : Int)
theorem plc_out {f : Int → Int} {d t : Int} : ∀ n : Nat, (∀ p : Int, 0 ≤ p → p < n → f (38 + 16 * d + p) ≠ t) → plc f d t n = -6
  | 0, _ => rfl
  | n + 1, h => (if_neg (h n (by omega) (by omega))).trans (plc_out n (fun p a b => h p a (by omega)))
theorem plc_in {f : Int → Int} {d t p : Int} : ∀ n : Nat, 0 ≤ p → p < n → f (38 + 16 * d + p) = t → (∀ p' : Int, 0 ≤ p' → p' < n → f (38 + 16 * d + p') = t → p' = p) → plc f d t n = p
  | 0, _, h, _, _ => by omega
  | n + 1, h0, h1, h2, h3 => by
    show (if _ then _ else _) = _
    by_cases e : p = n
    · subst e
      rw [if_pos h2]
    · rw [if_neg (fun z => e (h3 n (by omega) (by omega) z).symm)]
      exact plc_in n h0 (by omega) h2 (fun p' a b c => h3 p' a (by omega) c)
theorem plc_bd {f : Int → Int} {d t : Int} : ∀ n : Nat, plc f d t n = -6 ∨ (0 ≤ plc f d t n ∧ plc f d t n < n)
  | 0 => Or.inl rfl
  | n + 1 => by
    unfold plc
    by_cases e : f (38 + 16 * d + (n : Int)) = t
    · rw [if_pos e]
      exact Or.inr (by omega)
    · rw [if_neg e]
      rcases plc_bd (f := f) (d := d) (t := t) n with h | h
      · exact Or.inl h
      · exact Or.inr (by omega)
theorem dko_bd {f : Int → Int} {t : Int} : ∀ n : Nat, dko f t n = -6 ∨ (0 ≤ dko f t n ∧ dko f t n < n)
  | 0 => Or.inl rfl
  | n + 1 => by
    unfold dko
    by_cases e : plD f (n : Int) t = -6
    · rw [if_pos e]
      rcases dko_bd (f := f) (t := t) n with h | h
      · exact Or.inl h
      · exact Or.inr (by omega)
    · rw [if_neg e]
      exact Or.inr (by omega)
/-- where a trunk stands that is in a queue -/
theorem Inv.at {f : Int → Int} (I : Inv f) {d p t : Int} (q : Qv f d p) (h : f (38 + 16 * d + p) = t) : (∀ e, 0 ≤ e → e < 3 → plD f e t = if e = d then p else -6) ∧ dko f t 3 = d := by
  have iE := I.2.2.2.2.2.1
  have key : ∀ e, 0 ≤ e → e < 3 → plD f e t = if e = d then p else -6 := by
    intro e e0 e1
    have c := (I.le e0 e1).1
    by_cases z : e = d
    · subst z
      rw [if_pos rfl]
      exact plc_in _ q.2.2.1 (by have := q.2.2.2; omega) h (fun p' a b c2 => (iE e p' e p ⟨e0, e1, a, by omega⟩ q (c2.trans h.symm)).2)
    · rw [if_neg z]
      exact plc_out _ (fun p' a b c2 => z (iE e p' d p ⟨e0, e1, a, by omega⟩ q (c2.trans h.symm)).1)
  have q2 := q.2.2.1
  refine ⟨key, ?_⟩
  have k0 := key 0 (by omega) (by omega)
  have k1 := key 1 (by omega) (by omega)
  have k2 := key 2 (by omega) (by omega)
  show (if plD f 2 t = -6 then (if plD f 1 t = -6 then (if plD f 0 t = -6 then -6 else 0) else 1) else 2) = d
  rw [k0, k1, k2]
  have : d = 0 ∨ d = 1 ∨ d = 2 := by have := q.1; have := q.2.1; omega
  rcases this with rfl | rfl | rfl
  · rw [if_neg (show ¬ (2 : Int) = 0 by omega), if_pos rfl, if_neg (show ¬ (1 : Int) = 0 by omega), if_pos rfl, if_pos rfl, if_neg (by omega)]
  · rw [if_neg (show ¬ (2 : Int) = 1 by omega), if_pos rfl, if_pos rfl, if_neg (by omega)]
  · rw [if_pos rfl, if_neg (by omega)]
theorem Inv.out {f : Int → Int} (I : Inv f) {t : Int} (h : ∀ d p, Qv f d p → f (38 + 16 * d + p) ≠ t) : (∀ e, 0 ≤ e → e < 3 → plD f e t = -6) ∧ dko f t 3 = -6 := by
  have key : ∀ e, 0 ≤ e → e < 3 → plD f e t = -6 := by
    intro e e0 e1
    have c := (I.le e0 e1).1
    exact plc_out _ (fun p' a b => h e p' ⟨e0, e1, a, by omega⟩)
  refine ⟨key, ?_⟩
  have k0 := key 0 (by omega) (by omega)
  have k1 := key 1 (by omega) (by omega)
  have k2 := key 2 (by omega) (by omega)
  show (if plD f 2 t = -6 then (if plD f 1 t = -6 then (if plD f 0 t = -6 then -6 else 0) else 1) else 2) = -6
  rw [k0, k1, k2]
  rfl
abbrev C_X7_placeIn : Ct := (3, true, fun as M => ∃ (o : Nat) (d : Int) (t : Int), as = [wR o, wI d, wI t] ∧ (o = 11 ∧ (0 ≤ d ∧ d < 3) ∧ inr t ∧ Inv (M 12)), fun as M x M' => ∀ (o : Nat) (d : Int) (t : Int), as = [wR o, wI d, wI t] → ((plD (M 12) d t) = x ∧ (M) = M'))
abbrev C_X7_deskOf : Ct := (2, true, fun as M => ∃ (o : Nat) (t : Int), as = [wR o, wI t] ∧ (o = 11 ∧ inr t ∧ Inv (M 12)), fun as M x M' => ∀ (o : Nat) (t : Int), as = [wR o, wI t] → ((dko (M 12) t 3) = x ∧ (M) = M'))
def sbP (f : Int → Int) (t : Int) : Nat → Int
  | 0 => 0
  | n + 1 => sbP f t n + (if 0 < df f t (n : Int) - f 4 then df f t (n : Int) - f 4 else 0)
abbrev C_X7_beyondTare : Ct := (2, true, fun as M => ∃ (o : Nat) (t : Int), as = [wR o, wI t] ∧ (o = 11 ∧ (0 ≤ t ∧ t < 64) ∧ Bd (M 12)), fun as M x M' => ∀ (o : Nat) (t : Int), as = [wR o, wI t] → ((sbP (M 12) t 6) = x ∧ (M) = M'))
theorem sbP_z {f : Int → Int} {t : Int} (h : 0 ≤ f 4) : sbP f t 6 = 0 ↔ msk f t = 0 := by
  have k : ∀ k, (0 < df f t k - f 4 ∧ ds f t k = 1) ∨ (¬ 0 < df f t k - f 4 ∧ ds f t k = 0) := by
    intro k
    unfold ds
    by_cases e : f 4 < df f t k
    · exact Or.inl ⟨by omega, bt_t e⟩
    · exact Or.inr ⟨by omega, bt_f e⟩
  show 0 + (if 0 < df f t 0 - f 4 then df f t 0 - f 4 else 0) + (if 0 < df f t 1 - f 4 then df f t 1 - f 4 else 0) + (if 0 < df f t 2 - f 4 then df f t 2 - f 4 else 0) + (if 0 < df f t 3 - f 4 then df f t 3 - f 4 else 0) + (if 0 < df f t 4 - f 4 then df f t 4 - f 4 else 0) + (if 0 < df f t 5 - f 4 then df f t 5 - f 4 else 0) = 0 ↔ _
  unfold msk
  have k0 := k 0
  have k1 := k 1
  have k2 := k 2
  have k3 := k 3
  have k4 := k 4
  have k5 := k 5
  omega
theorem sbP_bd {f : Int → Int} {t : Int} (h : 0 ≤ f 4) (c1 : 0 ≤ f (87 + 9 * t)) (c2 : 0 ≤ f (88 + 9 * t)) : 0 ≤ sbP f t 6 ∧ sbP f t 6 ≤ 54 := by
  have b := fun k => df_bd (f := f) (t := t) (k := k) c1 c2
  have k0 := b 0
  have k1 := b 1
  have k2 := b 2
  have k3 := b 3
  have k4 := b 4
  have k5 := b 5
  show 0 ≤ 0 + (if 0 < df f t 0 - f 4 then df f t 0 - f 4 else 0) + (if 0 < df f t 1 - f 4 then df f t 1 - f 4 else 0) + (if 0 < df f t 2 - f 4 then df f t 2 - f 4 else 0) + (if 0 < df f t 3 - f 4 then df f t 3 - f 4 else 0) + (if 0 < df f t 4 - f 4 then df f t 4 - f 4 else 0) + (if 0 < df f t 5 - f 4 then df f t 5 - f 4 else 0) ∧ 0 + (if 0 < df f t 0 - f 4 then df f t 0 - f 4 else 0) + (if 0 < df f t 1 - f 4 then df f t 1 - f 4 else 0) + (if 0 < df f t 2 - f 4 then df f t 2 - f 4 else 0) + (if 0 < df f t 3 - f 4 then df f t 3 - f 4 else 0) + (if 0 < df f t 4 - f 4 then df f t 4 - f 4 else 0) + (if 0 < df f t 5 - f 4 then df f t 5 - f 4 else 0) ≤ 54
  omega
def hasT (f : Int → Int) (t : Int) : Prop := 0 ≤ t ∧ t < f 7
abbrev C_X7_alike : Ct := (3, true, fun as M => ∃ (o : Nat) (t : Int) (w : Int), as = [wR o, wI t, wI w] ∧ (o = 11 ∧ inr t ∧ inr w ∧ Inv (M 12)), fun as M x M' => ∀ (o : Nat) (t : Int) (w : Int), as = [wR o, wI t, wI w] → (M = M' ∧ (¬ hasT (M 12) t ∧ x = -1 ∨ hasT (M 12) t ∧ (w = 0 ∨ w = 1) ∧ x = bt_ (msk (M 12) t = 0) 1 ∨ hasT (M 12) t ∧ ¬ (w = 0 ∨ w = 1) ∧ x = -2)))
def sdP (f : Int → Int) (d : Int) : Nat → Int
  | 0 => 0
  | n + 1 => sdP f d n + dbt f (f (38 + 16 * d + (n : Int)))
def sdD (f : Int → Int) (d : Int) : Int := sdP f d (f (27 + 4 * d)).toNat
abbrev C_X7_doubtsAt : Ct := (2, true, fun as M => ∃ (o : Nat) (d : Int), as = [wR o, wI d] ∧ (o = 11 ∧ (0 ≤ d ∧ d < 3) ∧ Inv (M 12)), fun as M x M' => ∀ (o : Nat) (d : Int), as = [wR o, wI d] → ((sdD (M 12) d) = x ∧ (M) = M'))
abbrev C_X7_desk : Ct := (3, true, fun as M => ∃ (o : Nat) (d : Int) (w : Int), as = [wR o, wI d, wI w] ∧ (o = 11 ∧ inr d ∧ inr w ∧ Inv (M 12)), fun as M x M' => ∀ (o : Nat) (d : Int) (w : Int), as = [wR o, wI d, wI w] → (M = M' ∧ (¬ (0 ≤ d ∧ d < 3) ∧ x = -1 ∨ (0 ≤ d ∧ d < 3) ∧ (w = 0 ∧ x = M 12 (26 + 4 * d) ∨ w = 1 ∧ x = M 12 (27 + 4 * d) ∨ w = 2 ∧ x = sdD (M 12) d ∨ w = 3 ∧ x = M 12 (28 + 4 * d) ∨ w = 4 ∧ x = M 12 (29 + 4 * d) ∨ (w < 0 ∨ 4 < w) ∧ x = -2))))
abbrev C_X7_pieces : Ct := (4, true, fun as M => ∃ (o : Nat) (t : Int) (w : Int) (k : Int), as = [wR o, wI t, wI w, wI k] ∧ (o = 11 ∧ inr t ∧ inr w ∧ inr k ∧ Inv (M 12)), fun as M x M' => ∀ (o : Nat) (t : Int) (w : Int) (k : Int), as = [wR o, wI t, wI w, wI k] → (M = M' ∧ (¬ (hasT (M 12) t ∧ 0 ≤ k ∧ k < 6) ∧ x = -1 ∨ (hasT (M 12) t ∧ 0 ≤ k ∧ k < 6) ∧ ((0 ≤ w ∧ w < 3) ∧ x = dig (M 12 (87 + 9 * t + w)) k ∨ ¬ (0 ≤ w ∧ w < 3) ∧ x = -2))))
def trV (f : Int → Int) (t w : Int) : Int :=
  if w = 0 then f (86 + 9 * t) else if w = 1 then dko f t 3 else if w = 2 then (if dko f t 3 = -6 then -6 else plD f (dko f t 3) t) else if w = 3 then dbt f t else if w = 4 then msk f t else if w = 5 then f (91 + 9 * t) else if w = 6 then f (92 + 9 * t) else if w = 7 then f (90 + 9 * t) else if w = 8 then f (93 + 9 * t) else if w = 9 then f (94 + 9 * t) else -2
theorem trV_d {f : Int → Int} {t w : Int} (h : w < 0 ∨ 9 < w) : trV f t w = -2 := by
  unfold trV
  rw [if_neg (by omega), if_neg (by omega), if_neg (by omega), if_neg (by omega), if_neg (by omega), if_neg (by omega), if_neg (by omega), if_neg (by omega), if_neg (by omega), if_neg (by omega)]
abbrev C_X7_trunk : Ct := (3, true, fun as M => ∃ (o : Nat) (t : Int) (w : Int), as = [wR o, wI t, wI w] ∧ (o = 11 ∧ inr t ∧ inr w ∧ Inv (M 12)), fun as M x M' => ∀ (o : Nat) (t : Int) (w : Int), as = [wR o, wI t, wI w] → (M = M' ∧ (¬ hasT (M 12) t ∧ x = -1 ∨ hasT (M 12) t ∧ x = trV (M 12) t w)))
