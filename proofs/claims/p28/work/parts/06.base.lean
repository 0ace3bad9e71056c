/-! helpers for the contracts -/
theorem R_gh {X : Sx} {L : Nat} {xc : Nat → Int → Int} {Qp : Int → Mem → Prop} {pc : Nat} {ls st : List PV} {M : Mem} (f : Int → Int) (k : Runs X L xc Qp pc ls st (gho M f)) : Runs X L xc Qp pc ls st M := R_gho rfl (fun _ _ h => gho_r M f h) k
theorem R_un {X : Sx} {L : Nat} {xc : Nat → Int → Int} {Qp : Int → Mem → Prop} {pc : Nat} {ls st : List PV} {M : Mem} {f : Int → Int} (k : Runs X L xc Qp pc ls st M) : Runs X L xc Qp pc ls st (gho M f) := R_gho rfl (fun _ _ h => (gho_r M f h).symm) k
def isSt (a : Nat) : Prop := 15 ≤ a ∧ (a - 15) % 22 = 0 ∧ a + 22 ≤ 191
theorem layi {L a i : Nat} (h : isSt a) (hi : Nat.blt i 22 = true) : LAY L (a + i) = layS a i := LAY_st L a i h.1 h.2.1 (Nat.le_of_ble_eq_true hi)
theorem lay0 {L a : Nat} (h : isSt a) : LAY L a = layS a 0 := LAY_st L a 0 h.1 h.2.1 (by decide)
abbrev C_X7_deskAt : Ct := (2, true, fun as M => ∃ (b : Int) (d : Int), as = [wI b, wI d] ∧ (True), fun as M x M' => ∀ (b : Int) (d : Int), as = [wI b, wI d] → ((b + 26 + 4 * d) = x ∧ (M) = M'))
abbrev C_X7_flag : Ct := (1, true, fun as M => ∃ (b : Int), as = [wI b] ∧ (b = 0 ∨ b = 1), fun as M x M' => ∀ (b : Int), as = [wI b] → ((b) = x ∧ (M) = M'))
abbrev C_X7_in : Ct := (3, true, fun as M => ∃ (v : Int) (lo : Int) (hi : Int), as = [wL v, wL lo, wL hi] ∧ (inl64 v ∧ inl64 lo ∧ inl64 hi), fun as M x M' => ∀ (v : Int) (lo : Int) (hi : Int), as = [wL v, wL lo, wL hi] → ((if lo ≤ v ∧ v ≤ hi then 1 else 0) = x ∧ (M) = M'))
