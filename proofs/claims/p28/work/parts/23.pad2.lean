abbrev C_X7_fault : Ct := (1, true, fun as M => ∃ (o : Nat), as = [wR o] ∧ (o = 11 ∧ PdM M), fun as M x M' => ∀ (o : Nat), as = [wR o] → (x = flt (M 14) (M 11 4) ∧ Sp M M'))
