theorem sh_0 (F : Int → Int) : sh 0 F = F := by
  funext i
  show F (0 + i) = F i
  rw [Int.zero_add]
theorem un_0 (f : Int → Int) : un 0 f = f := by
  funext i
  show f (i - 0) = f i
  rw [Int.sub_zero]
theorem mr_0 (M : Mem) (f : Int → Int) : mr 0 M f = sta M f := by
  unfold mr
  rw [un_0]
theorem upM_s {M : Mem} {r : Nat} {k x : Int} : upM M r k x r k = x := by simp [upM]
theorem upM_r {M : Mem} {r r' : Nat} {k x : Int} (h : r' ≠ r) : upM M r k x r' = M r' := upM_ne r' h
theorem upM_k {M : Mem} {r : Nat} {k k' x : Int} (h : k' ≠ k) : upM M r k x r k' = M r k' := by simp [upM, h]
/-- the history's rows: cells that no machine has -/
def hc_ (j : Int) : Nat := if j = 1 then 0 else if j = 2 then 1 else if j = 3 then 2 else 13
theorem hc_r (j : Int) : hc_ j ≤ 2 ∨ hc_ j = 13 := by unfold hc_; split; omega; split; omega; split <;> omega
def hs (M : Mem) (j : Int) : Int → Int := M (hc_ j)
/-- the state before is recorded, and the row is n then -/
def Chg (M M' : Mem) (n : Int → Int) : Prop :=
  M' 12 = n ∧ M' 11 1 = (if M 11 1 = 4 then 4 else M 11 1 + 1) ∧ ∀ j, 1 ≤ j → j ≤ M' 11 1 → hs M' j = if j = M' 11 1 then M 12 else if M 11 1 = 4 then hs M (j + 1) else hs M j
def Fr (M M' : Mem) : Prop := ∀ r, 3 ≤ r → r ≠ 11 → r ≠ 12 → r ≠ 13 → M' r = M r
abbrev C_X7_isDesk : Ct := (1, true, fun as M => ∃ (d : Int), as = [wI d] ∧ (inr d), fun as M x M' => ∀ (d : Int), as = [wI d] → ((if 0 ≤ d ∧ d < 3 then 1 else 0) = x ∧ (M) = M'))
abbrev C_X7_isKind : Ct := (1, true, fun as M => ∃ (d : Int), as = [wI d] ∧ (inr d), fun as M x M' => ∀ (d : Int), as = [wI d] → ((if 0 ≤ d ∧ d < 6 then 1 else 0) = x ∧ (M) = M'))
abbrev C_X7_isTrunk : Ct := (2, true, fun as M => ∃ (o : Nat) (t : Int), as = [wR o, wI t] ∧ (o = 11 ∧ inr t ∧ 0 ≤ M 12 7 ∧ M 12 7 ≤ 64), fun as M x M' => ∀ (o : Nat) (t : Int), as = [wR o, wI t] → ((if 0 ≤ t ∧ t < M 12 7 then 1 else 0) = x ∧ (M) = M'))
abbrev C_X7_isWaiting : Ct := (2, true, fun as M => ∃ (o : Nat) (t : Int), as = [wR o, wI t] ∧ (o = 11 ∧ inr t ∧ (0 ≤ M 12 7 ∧ M 12 7 ≤ 64) ∧ ∀ t, 0 ≤ t → t < M 12 7 → 0 ≤ M 12 (90 + 9 * t) ∧ M 12 (90 + 9 * t) ≤ 3), fun as M x M' => ∀ (o : Nat) (t : Int), as = [wR o, wI t] → ((if (0 ≤ t ∧ t < M 12 7) ∧ M 12 (90 + 9 * t) = 0 then 1 else 0) = x ∧ (M) = M'))
abbrev C_X7_waiting : Ct := (1, true, fun as M => ∃ (o : Nat), as = [wR o] ∧ (o = 11), fun as M x M' => ∀ (o : Nat), as = [wR o] → ((M 12 27 + M 12 31 + M 12 35) = x ∧ (M) = M'))
abbrev C_X7_taken : Ct := (2, true, fun as M => ∃ (o : Nat) (b : Int), as = [wR o, wI b] ∧ (o = 11 ∧ (0 ≤ b ∧ b ≤ 4634)), fun as M x M' => ∀ (o : Nat) (b : Int), as = [wR o, wI b] → (((sh b (M 12)) 11 + (sh b (M 12)) 12 + (sh b (M 12)) 13) = x ∧ (M) = M'))
abbrev C_X7_isSlot : Ct := (1, true, fun as M => ∃ (s : Int), as = [wI s] ∧ (inr s), fun as M x M' => ∀ (s : Int), as = [wI s] → ((if s = 0 ∨ s = 1 then 1 else 0) = x ∧ (M) = M'))
def vS (s v : Int) : Prop := (s = 0 ∧ 0 ≤ v ∧ v ≤ 200) ∨ (s = 1 ∧ 0 ≤ v ∧ v ≤ 50) ∨ (s = 2 ∧ 0 ≤ v ∧ v ≤ 90) ∨ (s = 3 ∧ 0 ≤ v ∧ v ≤ 20) ∨ (s = 4 ∧ 0 ≤ v ∧ v ≤ 9) ∨ (s = 5 ∧ 1 ≤ v ∧ v ≤ 4)
abbrev C_X7_isValue : Ct := (2, true, fun as M => ∃ (s : Int) (v : Int), as = [wI s, wI v] ∧ (inr s ∧ inr v), fun as M x M' => ∀ (s : Int) (v : Int), as = [wI s, wI v] → ((x = 1 ∧ vS s v ∨ x = 0 ∧ ¬ vS s v) ∧ M = M'))
/-- a change of one place of the row 0 -/
def Set1 (M M' : Mem) (x p v : Int) : Prop := M 12 p = x ∧ Chg M M' (us (M 12) p v) ∧ Fr M M' ∧ ∀ k, k ≠ 1 → M' 11 k = M 11 k
abbrev C_X7_set : Ct := (3, true, fun as M => ∃ (o : Nat) (s : Int) (v : Int), as = [wR o, wI s, wI v] ∧ (o = 11 ∧ inr s ∧ inr v ∧ 0 ≤ M 11 1 ∧ M 11 1 ≤ 4), fun as M x M' => ∀ (o : Nat) (s : Int) (v : Int), as = [wR o, wI s, wI v] → (vS s v ∧ Set1 M M' x s v ∨ ¬ vS s v ∧ x = -2 ∧ M = M'))
abbrev C_X7_weight : Ct := (3, true, fun as M => ∃ (o : Nat) (s : Int) (v : Int), as = [wR o, wI s, wI v] ∧ (o = 11 ∧ inr s ∧ inr v ∧ 0 ≤ M 11 1 ∧ M 11 1 ≤ 4), fun as M x M' => ∀ (o : Nat) (s : Int) (v : Int), as = [wR o, wI s, wI v] → ((0 ≤ s ∧ s < 6) ∧ (1 ≤ v ∧ v ≤ 9) ∧ Set1 M M' x (15 + s) v ∨ ¬ (0 ≤ s ∧ s < 6) ∧ x = -1 ∧ M = M' ∨ (0 ≤ s ∧ s < 6) ∧ ¬ (1 ≤ v ∧ v ≤ 9) ∧ x = -2 ∧ M = M'))
abbrev C_X7_trust : Ct := (3, true, fun as M => ∃ (o : Nat) (s : Int) (v : Int), as = [wR o, wI s, wI v] ∧ (o = 11 ∧ inr s ∧ inr v ∧ 0 ≤ M 11 1 ∧ M 11 1 ≤ 4), fun as M x M' => ∀ (o : Nat) (s : Int) (v : Int), as = [wR o, wI s, wI v] → ((0 ≤ s ∧ s < 5) ∧ (0 ≤ v ∧ v ≤ 9) ∧ Set1 M M' x (21 + s) v ∨ ¬ (0 ≤ s ∧ s < 5) ∧ x = -1 ∧ M = M' ∨ (0 ≤ s ∧ s < 5) ∧ ¬ (0 ≤ v ∧ v ≤ 9) ∧ x = -2 ∧ M = M'))
abbrev C_X7_hands : Ct := (3, true, fun as M => ∃ (o : Nat) (s : Int) (v : Int), as = [wR o, wI s, wI v] ∧ (o = 11 ∧ inr s ∧ inr v ∧ 0 ≤ M 11 1 ∧ M 11 1 ≤ 4), fun as M x M' => ∀ (o : Nat) (s : Int) (v : Int), as = [wR o, wI s, wI v] → ((0 ≤ s ∧ s < 3) ∧ (0 ≤ v ∧ v ≤ 3) ∧ Set1 M M' x (26 + 4 * s) v ∨ ¬ (0 ≤ s ∧ s < 3) ∧ x = -1 ∧ M = M' ∨ (0 ≤ s ∧ s < 3) ∧ ¬ (0 ≤ v ∧ v ≤ 3) ∧ x = -2 ∧ M = M'))
