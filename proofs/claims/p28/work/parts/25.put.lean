theorem inl64_toInt (x : Int64) : inl64 x.toInt := by
  have h1 := Int64.le_toInt x
  have h2 := Int64.toInt_lt x
  exact ⟨by simpa using h1, by simpa using h2⟩
theorem xland_bd (l : Int) : 0 ≤ xland l 255 ∧ xland l 255 ≤ 255 := by
  unfold xland
  have h1 : ((Int64.ofInt l &&& Int64.ofInt 255).toBitVec).toNat ≤ 255 := by
    rw [Int64.toBitVec_and, BitVec.toNat_and]
    exact Nat.le_trans Nat.and_le_right (by decide +kernel)
  have h2 : (Int64.ofInt l &&& Int64.ofInt 255).toInt = (((Int64.ofInt l &&& Int64.ofInt 255).toBitVec).toNat : Int) := BitVec.toInt_eq_toNat_of_lt (by omega)
  rw [h2]
  omega
theorem xland_0 : xland 0 255 = 0 := by decide +kernel
theorem xlushr_in (l s : Int) : inl64 (xlushr l s) := inl64_toInt _
def chn : Nat → Int → Int → Int
  | 0, k, l => if l = 0 then k else 0
  | m + 1, k, l => if 33 ≤ xland l 255 ∧ xland l 255 ≤ 126 then chn m (k + 1) (xlushr l 8) else if l = 0 then k else 0
theorem chn_bd : ∀ (m : Nat) (k l : Int), 0 ≤ k → 0 ≤ chn m k l ∧ chn m k l ≤ k + m
  | 0, k, l, h => by
    unfold chn
    split <;> omega
  | m + 1, k, l, h => by
    unfold chn
    have := chn_bd m (k + 1) (xlushr l 8) (by omega)
    split
    · omega
    · split <;> omega
abbrev C_X7_charactersOf : Ct := (1, true, fun as M => ∃ (ch : Int), as = [wL ch] ∧ (inl64 ch), fun as M x M' => ∀ (ch : Int), as = [wL ch] → ((chn 8 0 ch) = x ∧ (M) = M'))
def chb (ch j : Int) : Int := xland (xlushr ch (8 * j)) 255
def ptP (M : Mem) (ch n k : Int) : Mem := fun r j => if r = 14 ∧ M 11 4 ≤ j ∧ j < M 11 4 + k then chb ch (n - 1 - (j - M 11 4)) else M r j
theorem ptP_0 {M : Mem} {ch n : Int} : ptP M ch n 0 = M := by
  funext r j
  unfold ptP
  rw [if_neg (by omega)]
theorem ptP_r {M : Mem} {ch n k : Int} {r : Nat} (h : r ≠ 14) : ptP M ch n k r = M r := by
  funext j
  unfold ptP
  rw [if_neg (fun z => h z.1)]
theorem ptP_s {M : Mem} {ch n k : Int} (hk : 0 ≤ k) : upM (ptP M ch n k) 14 (M 11 4 + k) (chb ch (n - 1 - k)) = ptP M ch n (k + 1) := by
  funext r j
  unfold upM ptP
  by_cases hr : r = 14
  · subst hr
    by_cases e : j = M 11 4 + k
    · subst e
      rw [if_pos ⟨rfl, rfl⟩, if_pos ⟨rfl, by omega⟩]
      congr 1
      omega
    · rw [if_neg (fun z => e z.2)]
      by_cases z : M 11 4 ≤ j ∧ j < M 11 4 + k
      · rw [if_pos ⟨rfl, z⟩, if_pos ⟨rfl, by omega⟩]
      · rw [if_neg (fun y => z y.2), if_neg (fun y => z (by omega))]
  · rw [if_neg (fun z => hr z.1), if_neg (fun z => hr z.1), if_neg (fun z => hr z.1)]
abbrev C_X7_put : Ct := (2, true, fun as M => ∃ (o : Nat) (ch : Int), as = [wR o, wL ch] ∧ (o = 11 ∧ inl64 ch ∧ PdM M), fun as M x M' => ∀ (o : Nat) (ch : Int), as = [wR o, wL ch] → ((chn 8 0 ch = 0 ∧ x = -2 ∧ M = M') ∨ (chn 8 0 ch ≠ 0 ∧ 60 < M 11 4 + chn 8 0 ch ∧ x = -4 ∧ M = M') ∨ (chn 8 0 ch ≠ 0 ∧ M 11 4 + chn 8 0 ch ≤ 60 ∧ x = M 11 4 + chn 8 0 ch ∧ M' = upM (ptP M ch (chn 8 0 ch) (chn 8 0 ch)) 11 4 (M 11 4 + chn 8 0 ch))))
