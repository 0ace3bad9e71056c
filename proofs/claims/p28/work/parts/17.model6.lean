/-! what would be: the reference plays on the row 7 -/
/-! what would be -/
def tau (M : Mem) : Int → Int := M 12
theorem Bd_win {f g : Int → Int} (h : ∀ i, 0 ≤ i → i < 662 → g i = f i) (b : Bd f) : Bd g :=
  Bd_keep b (fun j a c => h j a (by omega)) (fun j a c => h j (by omega) (by omega)) (fun t a c => ⟨h _ (by omega) (by omega), h _ (by omega) (by omega), h _ (by omega) (by omega), h _ (by omega) (by omega)⟩)
theorem Inv_win {f g : Int → Int} (h : ∀ i, 0 ≤ i → i < 662 → g i = f i) (I : Inv f) : Inv g :=
  Inv_same I (by rw [h 6 (by omega) (by omega)]; exact I.2.1.1) (fun j a b _ => h j a (by omega)) (fun j a b => h j (by omega) (by omega)) (fun e a b => ⟨h _ (by omega) (by omega), h _ (by omega) (by omega)⟩) (fun j a b => h j (by omega) (by omega))
    (fun t a b => ⟨h _ (by omega) (by omega), h _ (by omega) (by omega), h _ (by omega) (by omega), h _ (by omega) (by omega), h _ (by omega) (by omega), h _ (by omega) (by omega)⟩)
theorem tau_w {M : Mem} : ∀ i, 0 ≤ i → i < 662 → tau M i = M 12 i := fun _ _ _ => rfl
theorem tau_Inv {M : Mem} (I : Inv (M 12)) : Inv (tau M) := Inv_win tau_w I
def Tr (M M' : Mem) : Prop := M' = M
noncomputable def unt (t : Int) : Nat → Int → (Int → Int) → Int
  | 0, _, _ => -6
  | n + 1, k, f => if f (90 + 9 * t) = 0 then unt t n (k + 1) (tn1 f) else k
noncomputable def unf (t : Int) : Nat → (Int → Int) → (Int → Int)
  | 0, f => f
  | n + 1, f => if f (90 + 9 * t) = 0 then unf t n (tn1 f) else f
theorem unf_Inv (t : Int) : ∀ (n : Nat) (f : Int → Int), Inv f → Inv (unf t n f) ∧ ∀ j, Kp j → unf t n f j = f j
  | 0, f, I => ⟨I, fun _ _ => rfl⟩
  | n + 1, f, I => by
    unfold unf
    by_cases e : f (90 + 9 * t) = 0
    · rw [if_pos e]
      obtain ⟨a, b, -⟩ := tn1_Inv I
      obtain ⟨c, d⟩ := unf_Inv t n _ a
      exact ⟨c, fun j hj => (d j hj).trans (b j hj)⟩
    · rw [if_neg e]
      exact ⟨I, fun _ _ => rfl⟩
theorem unt_bd {t : Int} : ∀ (n : Nat) (k : Int) (f : Int → Int), unt t n k f = -6 ∨ (k ≤ unt t n k f ∧ unt t n k f < k + n)
  | 0, _, _ => Or.inl rfl
  | n + 1, k, f => by
    unfold unt
    by_cases e : f (90 + 9 * t) = 0
    · rw [if_pos e]
      have := unt_bd (t := t) n (k + 1) (tn1 f)
      omega
    · rw [if_neg e]
      omega
abbrev C_X7_untilGone : Ct := (2, true, fun as M => ∃ (o : Nat) (t : Int), as = [wR o, wI t] ∧ (o = 11 ∧ inr t ∧ Inv (M 12)), fun as M x M' => ∀ (o : Nat) (t : Int), as = [wR o, wI t] → ((¬ hasT (M 12) t ∧ x = -1 ∧ Tr M M') ∨ (hasT (M 12) t ∧ x = unt t 201 0 (tau M) ∧ Tr M M')))
noncomputable def ftV (t : Int) (f : Int → Int) : Int := if unt t 201 0 f = -6 then -6 else unf t 201 f (90 + 9 * t)
abbrev C_X7_fate : Ct := (2, true, fun as M => ∃ (o : Nat) (t : Int), as = [wR o, wI t] ∧ (o = 11 ∧ inr t ∧ Inv (M 12)), fun as M x M' => ∀ (o : Nat) (t : Int), as = [wR o, wI t] → ((¬ hasT (M 12) t ∧ x = -1 ∧ Tr M M') ∨ (hasT (M 12) t ∧ x = ftV t (tau M) ∧ Tr M M')))
def mdb (f : Int → Int) : Nat → Int
  | 0 => -6
  | n + 1 => if f (90 + 9 * (n : Int)) = 0 ∧ (mdb f n = -6 ∨ dbt f (mdb f n) < dbt f (n : Int)) then (n : Int) else mdb f n
theorem mdb_bd {f : Int → Int} : ∀ n : Nat, mdb f n = -6 ∨ (0 ≤ mdb f n ∧ mdb f n < n)
  | 0 => Or.inl rfl
  | n + 1 => by
    unfold mdb
    have := mdb_bd (f := f) n
    split <;> omega
abbrev C_X7_mostDoubted : Ct := (1, true, fun as M => ∃ (o : Nat), as = [wR o] ∧ (o = 11 ∧ Inv (M 12)), fun as M x M' => ∀ (o : Nat), as = [wR o] → ((mdb (M 12) (M 12 7).toNat) = x ∧ (M) = M'))
noncomputable def psn (n : Nat) (f : Int → Int) : Int := tnN n f 8 + tnN n f 9 - (f 8 + f 9)
def tkn (f : Int → Int) : Int := f 11 + f 12 + f 13
noncomputable def itV (n w : Int) (f : Int → Int) : Int := if w = 0 then psn n.toNat f else if w = 1 then tnN n.toNat f 9 - f 9 else tkn (tnN n.toNat f) - tkn f
def itOK (n w : Int) : Prop := (1 ≤ n ∧ n ≤ 200) ∧ (0 ≤ w ∧ w ≤ 2)
abbrev C_X7_ifTurned : Ct := (3, true, fun as M => ∃ (o : Nat) (n : Int) (w : Int), as = [wR o, wI n, wI w] ∧ (o = 11 ∧ inr n ∧ inr w ∧ Inv (M 12)), fun as M x M' => ∀ (o : Nat) (n : Int) (w : Int), as = [wR o, wI n, wI w] → ((¬ itOK n w ∧ x = -2 ∧ Tr M M') ∨ (itOK n w ∧ x = itV n w (tau M) ∧ Tr M M')))
