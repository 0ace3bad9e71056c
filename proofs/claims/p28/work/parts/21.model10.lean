def cnV (M : Mem) (f : Int → Int) (w : Int) : Int :=
  if 0 ≤ w ∧ w ≤ 7 then f w else if w = 8 then f 27 + f 31 + f 35 else if 9 ≤ w ∧ w ≤ 14 then f (w - 1) else if w = 15 then tkn f else if w = 16 then f 14 else if w = 17 then M 11 4 else if w = 18 then M 11 1 else -2
abbrev C_X7_count : Ct := (2, true, fun as M => ∃ (o : Nat) (w : Int), as = [wR o, wI w] ∧ (o = 11 ∧ inr w), fun as M x M' => ∀ (o : Nat) (w : Int), as = [wR o, wI w] → ((cnV M (M 12) w) = x ∧ (M) = M'))
abbrev C_X7_wipe : Ct := (1, true, fun as M => ∃ (o : Nat), as = [wR o] ∧ (o = 11), fun as M x M' => ∀ (o : Nat), as = [wR o] → ((M 11 4) = x ∧ (upM M 11 4 0) = M'))
def unM (M : Mem) : Mem := fun r => if r = 12 then hs M (M 11 1) else if r = 11 then us (M 11) 1 (M 11 1 - 1) else M r
abbrev C_X7_undo : Ct := (1, true, fun as M => ∃ (o : Nat), as = [wR o] ∧ (o = 11 ∧ 0 ≤ M 11 1 ∧ M 11 1 ≤ 4), fun as M x M' => ∀ (o : Nat), as = [wR o] → ((M 11 1 = 0 ∧ x = -5 ∧ M = M') ∨ (M 11 1 ≠ 0 ∧ x = M 11 1 - 1 ∧ M' = unM M)))
