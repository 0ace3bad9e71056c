/-! the pad -/
def rdp (c : Int → Int) (n : Int) : Nat → Int → Int → Int → Int × Int × Int
  | 0, s, _, p => (1, s, p)
  | m + 1, s, l, p => if s < n ∧ l ≤ c s ∧ c s ≤ 102 then (if s + 1 < n ∧ 49 ≤ c (s + 1) ∧ c (s + 1) ≤ 57 then rdp c n m (s + 2) (c s + 1) (p + (c (s + 1) - 48) * pw (c s - 97)) else (0, s + 1, p)) else (1, s, p)
theorem rdp_bd {c : Int → Int} {n : Int} : ∀ (m : Nat) (s l p : Int), s ≤ n → s ≤ (rdp c n m s l p).2.1 ∧ (rdp c n m s l p).2.1 ≤ n ∧ ((rdp c n m s l p).1 = 0 ∨ (rdp c n m s l p).1 = 1)
  | 0, s, l, p, h => ⟨Int.le_refl _, h, Or.inr rfl⟩
  | m + 1, s, l, p, h => by
    unfold rdp
    by_cases e : s < n ∧ l ≤ c s ∧ c s ≤ 102
    · rw [if_pos e]
      by_cases e2 : s + 1 < n ∧ 49 ≤ c (s + 1) ∧ c (s + 1) ≤ 57
      · rw [if_pos e2]
        obtain ⟨a, b, d⟩ := rdp_bd (c := c) (n := n) m (s + 2) (c s + 1) (p + (c (s + 1) - 48) * pw (c s - 97)) (by omega)
        exact ⟨by omega, b, d⟩
      · rw [if_neg e2]
        exact ⟨by show s ≤ s + 1; omega, by show s + 1 ≤ n; omega, Or.inl rfl⟩
    · rw [if_neg e]
      exact ⟨Int.le_refl _, h, Or.inr rfl⟩
/-- the kinds from l on aren't told yet -/
def Pz (l p : Int) : Prop := (0 ≤ p ∧ p < 1000000) ∧ ∀ k, 0 ≤ k → k < 6 → l - 97 ≤ k → dig p k = 0
theorem Pz_s {l p x v : Int} (h : Pz l p) (hl : 97 ≤ l) (h1 : l ≤ x) (h2 : x ≤ 102) (hv : 0 ≤ v ∧ v ≤ 9) : Pz (x + 1) (p + v * pw (x - 97)) := by
  have hz := h.2 (x - 97) (by omega) (by omega) (by omega)
  have := dig_set (d := p) (v := v) (k := x - 97) h.1 hv (by omega)
  rw [hz, Int.sub_zero] at this
  refine ⟨this.1, fun k a b c => ?_⟩
  rw [this.2 k ⟨a, b⟩, if_neg (by omega)]
  exact h.2 k a b (by omega)
theorem rdp_pz {c : Int → Int} {n : Int} : ∀ (m : Nat) (s l p : Int), 97 ≤ l → Pz l p → 0 ≤ (rdp c n m s l p).2.2 ∧ (rdp c n m s l p).2.2 < 1000000
  | 0, s, l, p, _, h => h.1
  | m + 1, s, l, p, hl, h => by
    unfold rdp
    by_cases e : s < n ∧ l ≤ c s ∧ c s ≤ 102
    · rw [if_pos e]
      by_cases e2 : s + 1 < n ∧ 49 ≤ c (s + 1) ∧ c (s + 1) ≤ 57
      · rw [if_pos e2]
        exact rdp_pz m _ _ _ (by omega) (Pz_s h hl e.2.1 e.2.2 (by omega))
      · rw [if_neg e2]
        exact h.1
    · rw [if_neg e]
      exact h.1
theorem Pz_0 : Pz 97 0 := ⟨by omega, fun k a b _ => by
  refine k6 (P := fun k => dig 0 k = 0) ⟨a, b⟩ ?_ ?_ ?_ ?_ ?_ ?_ <;> decide +kernel⟩
theorem r1_ex : ∃ g : (Int → Int) → Int → Int × Int × Int, ∀ c n, g c n = rdp c n 6 2 97 0 := ⟨fun c n => rdp c n 6 2 97 0, fun _ _ => rfl⟩
noncomputable def r1 : (Int → Int) → Int → Int × Int × Int := Classical.choose r1_ex
theorem r1_eq (c : Int → Int) (n : Int) : rdp c n 6 2 97 0 = r1 c n := (Classical.choose_spec r1_ex c n).symm
theorem r2_ex : ∃ g : (Int → Int) → Int → Int × Int × Int, ∀ c n, g c n = rdp c n 6 ((r1 c n).2.1 + 1) 97 0 := ⟨fun c n => rdp c n 6 ((r1 c n).2.1 + 1) 97 0, fun _ _ => rfl⟩
noncomputable def r2 : (Int → Int) → Int → Int × Int × Int := Classical.choose r2_ex
theorem r2_eq (c : Int → Int) (n : Int) : rdp c n 6 ((r1 c n).2.1 + 1) 97 0 = r2 c n := (Classical.choose_spec r2_ex c n).symm
theorem r3_ex : ∃ g : (Int → Int) → Int → Int × Int × Int, ∀ c n, g c n = rdp c n 6 ((r2 c n).2.1 + 1) 97 0 := ⟨fun c n => rdp c n 6 ((r2 c n).2.1 + 1) 97 0, fun _ _ => rfl⟩
noncomputable def r3 : (Int → Int) → Int → Int × Int × Int := Classical.choose r3_ex
theorem r3_eq (c : Int → Int) (n : Int) : rdp c n 6 ((r2 c n).2.1 + 1) 97 0 = r3 c n := (Classical.choose_spec r3_ex c n).symm
noncomputable def flt (c : Int → Int) (n : Int) : Int :=
  if ¬ (0 < n ∧ 48 ≤ c 0 ∧ c 0 ≤ 52) then 0
  else if ¬ (1 < n ∧ c 1 = 58) then 1
  else if (r1 c n).1 = 0 then (r1 c n).2.1
  else if ¬ ((r1 c n).2.1 < n ∧ c (r1 c n).2.1 = 47) then (r1 c n).2.1
  else if (r2 c n).1 = 0 then (r2 c n).2.1
  else if (r2 c n).2.1 < n ∧ c (r2 c n).2.1 = 61 then (if (r3 c n).1 = 0 then (r3 c n).2.1 else if (r3 c n).2.1 = n then -6 else (r3 c n).2.1)
  else if (r2 c n).2.1 = n then -6 else (r2 c n).2.1
noncomputable def pTr (c : Int → Int) (n : Int) : Int := if (r2 c n).2.1 < n then (r3 c n).2.2 else (r1 c n).2.2
/-- only the spot and the paper that is read have changed -/
def Sp (M M' : Mem) : Prop := (∀ k, k ≠ 5 → k ≠ 6 → M' 11 k = M 11 k) ∧ ∀ r, r ≠ 11 → M' r = M r
def PdM (M : Mem) : Prop := (0 ≤ M 11 4 ∧ M 11 4 ≤ 60) ∧ ∀ i, 0 ≤ i → i < 60 → 0 ≤ M 14 i ∧ M 14 i ≤ 255
theorem Sp.rf {M : Mem} : Sp M M := ⟨fun _ _ _ => rfl, fun _ _ => rfl⟩
theorem Sp.tr {M M1 M2 : Mem} (h : Sp M M1) (k : Sp M1 M2) : Sp M M2 := ⟨fun i a b => (k.1 i a b).trans (h.1 i a b), fun r a => (k.2 r a).trans (h.2 r a)⟩
theorem Sp.u5 {M : Mem} {x : Int} : Sp M (upM M 11 5 x) := ⟨fun k a _ => upM_k a, fun r a => upM_r a⟩
theorem Sp.u6 {M : Mem} {x : Int} : Sp M (upM M 11 6 x) := ⟨fun k _ a => upM_k a, fun r a => upM_r a⟩
theorem Sp.pd {M M1 : Mem} (h : Sp M M1) (p : PdM M) : PdM M1 := by
  unfold PdM
  rw [h.1 4 (by omega) (by omega), h.2 14 (by decide)]
  exact p
def isH (M : Mem) (lo hi : Int) : Prop := M 11 5 < M 11 4 ∧ lo ≤ M 14 (M 11 5) ∧ M 14 (M 11 5) ≤ hi
abbrev C_X7_isHere : Ct := (3, true, fun as M => ∃ (o : Nat) (lo : Int) (hi : Int), as = [wR o, wI lo, wI hi] ∧ (o = 11 ∧ PdM M ∧ (0 ≤ M 11 5 ∧ M 11 5 ≤ 60) ∧ inr lo ∧ inr hi), fun as M x M' => ∀ (o : Nat) (lo : Int) (hi : Int), as = [wR o, wI lo, wI hi] → (((x = 1 ∧ isH M lo hi) ∨ (x = 0 ∧ ¬ isH M lo hi)) ∧ M = M'))
abbrev C_X7_takesSign : Ct := (2, true, fun as M => ∃ (o : Nat) (ch : Int), as = [wR o, wI ch] ∧ (o = 11 ∧ PdM M ∧ (0 ≤ M 11 5 ∧ M 11 5 ≤ 60) ∧ inr ch), fun as M x M' => ∀ (o : Nat) (ch : Int), as = [wR o, wI ch] → (((x = 1 ∧ M 11 5 < M 11 4 ∧ M 14 (M 11 5) = ch) ∨ (x = 0 ∧ ¬ (M 11 5 < M 11 4 ∧ M 14 (M 11 5) = ch))) ∧ M' = upM M 11 5 (M 11 5 + x)))
abbrev C_X7_readsPaper : Ct := (1, true, fun as M => ∃ (o : Nat), as = [wR o] ∧ (o = 11 ∧ PdM M ∧ 0 ≤ M 11 5 ∧ M 11 5 ≤ M 11 4), fun as M x M' => ∀ (o : Nat), as = [wR o] → (x = (rdp (M 14) (M 11 4) 6 (M 11 5) 97 0).1 ∧ M' 11 5 = (rdp (M 14) (M 11 4) 6 (M 11 5) 97 0).2.1 ∧ M' 11 6 = (rdp (M 14) (M 11 4) 6 (M 11 5) 97 0).2.2 ∧ Sp M M'))
