/-! helpers for the contracts -/
theorem R_gh {X : Sx} {L : Nat} {xc : Nat → Int → Int} {Qp : Int → Mem → Prop} {pc : Nat} {ls st : List PV} {M : Mem} (f : Int → Int) (k : Runs X L xc Qp pc ls st (gho M f)) : Runs X L xc Qp pc ls st M := R_gho rfl (fun _ _ h => gho_r M f h) k
theorem R_un {X : Sx} {L : Nat} {xc : Nat → Int → Int} {Qp : Int → Mem → Prop} {pc : Nat} {ls st : List PV} {M : Mem} {f : Int → Int} (k : Runs X L xc Qp pc ls st M) : Runs X L xc Qp pc ls st (gho M f) := R_gho rfl (fun _ _ h => (gho_r M f h).symm) k
def isSt (a : Nat) : Prop := 15 ≤ a ∧ (a - 15) % 22 = 0 ∧ a + 22 ≤ 191
theorem layi {L a i : Nat} (h : isSt a) (hi : Nat.blt i 22 = true) : LAY L (a + i) = layS a i := LAY_st L a i h.1 h.2.1 (Nat.le_of_ble_eq_true hi)
theorem lay0 {L a : Nat} (h : isSt a) : LAY L a = layS a 0 := LAY_st L a 0 h.1 h.2.1 (by decide)
abbrev C_X7_deskAt : Ct := (2, true, fun as M => ∃ (b : Int) (d : Int), as = [wI b, wI d] ∧ (True), fun as M x M' => ∀ (b : Int) (d : Int), as = [wI b, wI d] → ((b + 26 + 4 * d) = x ∧ (M) = M'))
def sx_X7_deskAt : Sx := (tb_X7_deskAt, fdX7, kLX7, kIX7, sgX7, ntX7, [], 1)
set_option maxRecDepth 100000 in
set_option maxHeartbeats 1000000 in
theorem ok_X7_deskAt (L : Nat) (scr : Int → Int) (b : Int) (d : Int) (M : Mem) (hp : True) : Runs sx_X7_deskAt L (xcF scr) (fun x M' => (b + 26 + 4 * d) = x ∧ (M) = M') 0 [wI b, wI d] [] M := by
  refine R_iload_n (q := 1) (i := 0) rfl rfl rfl rfl ?_
  refine R_bipush (q := 3) rfl rfl (by decide) ?_
  refine R_iadd (q := 4) rfl rfl ?_
  refine R_iconst (q := 5) rfl rfl ?_
  refine R_iload_n (q := 6) (i := 1) rfl rfl rfl rfl ?_
  refine R_imul (q := 7) rfl rfl ?_
  refine R_iadd (q := 8) rfl rfl ?_
  refine R_ret rfl (Or.inl rfl) ?_
  exact ⟨rfl, rfl⟩
set_option maxRecDepth 100000 in
theorem mt_X7_deskAt : MtOK yX7_deskAt cX7_deskAt 2 (some .int) 0 C_X7_deskAt := by
  refine mt_of sx_X7_deskAt (by decide +kernel) (Or.inl ⟨rfl, rfl, rfl⟩) (by decide +kernel) fdX7_ok kLX7_ok kIX7_ok sgX7_ok ntX7_ok
    (all_nil) ?_ ?_
  · rintro as M - ⟨b, d, rfl, hp⟩
    exact Nat.le_of_ble_eq_true rfl
  · rintro L scr as M - ⟨b, d, rfl, hp⟩
    exact Runs.mono (fun x M' h _ _ e => by cases e; exact h) (ok_X7_deskAt L scr b d M hp)
abbrev C_X7_flag : Ct := (1, true, fun as M => ∃ (b : Int), as = [wI b] ∧ (b = 0 ∨ b = 1), fun as M x M' => ∀ (b : Int), as = [wI b] → ((b) = x ∧ (M) = M'))
def sx_X7_flag : Sx := (tb_X7_flag, fdX7, kLX7, kIX7, sgX7, ntX7, [], 1)
set_option maxRecDepth 100000 in
set_option maxHeartbeats 1000000 in
theorem ok_X7_flag (L : Nat) (scr : Int → Int) (b : Int) (M : Mem) (hp : b = 0 ∨ b = 1) : Runs sx_X7_flag L (xcF scr) (fun x M' => (b) = x ∧ (M) = M') 0 [wI b] [] M := by
  refine R_iload_n (q := 1) (i := 0) rfl rfl rfl rfl ?_
  refine R_if_eq (q := 4) (tgt := 8) rfl rfl (by decide) (by omega) (fun h1 => ?_) (fun h1 => ?_)
  · refine R_iconst (q := 9) rfl rfl ?_
    refine R_ret rfl (Or.inl rfl) ?_
    exact ⟨by omega, rfl⟩
  · refine R_iconst (q := 5) rfl rfl ?_
    refine R_goto (q := 8) (tgt := 9) rfl rfl (by decide) ?_
    refine R_ret rfl (Or.inl rfl) ?_
    exact ⟨by omega, rfl⟩
set_option maxRecDepth 100000 in
theorem mt_X7_flag : MtOK yX7_flag cX7_flag 1 (some .int) 0 C_X7_flag := by
  refine mt_of sx_X7_flag (by decide +kernel) (Or.inl ⟨rfl, rfl, rfl⟩) (by decide +kernel) fdX7_ok kLX7_ok kIX7_ok sgX7_ok ntX7_ok
    (all_nil) ?_ ?_
  · rintro as M - ⟨b, rfl, hp⟩
    exact Nat.le_of_ble_eq_true rfl
  · rintro L scr as M - ⟨b, rfl, hp⟩
    exact Runs.mono (fun x M' h _ e => by cases e; exact h) (ok_X7_flag L scr b M hp)
abbrev C_X7_in : Ct := (3, true, fun as M => ∃ (v : Int) (lo : Int) (hi : Int), as = [wL v, wL lo, wL hi] ∧ (inl64 v ∧ inl64 lo ∧ inl64 hi), fun as M x M' => ∀ (v : Int) (lo : Int) (hi : Int), as = [wL v, wL lo, wL hi] → ((if lo ≤ v ∧ v ≤ hi then 1 else 0) = x ∧ (M) = M'))
def sx_X7_in : Sx := (tb_X7_in, fdX7, kLX7, kIX7, sgX7, ntX7, [], 2)
set_option maxRecDepth 100000 in
set_option maxHeartbeats 1000000 in
theorem ok_X7_in (L : Nat) (scr : Int → Int) (v : Int) (lo : Int) (hi : Int) (M : Mem) (hp : inl64 v ∧ inl64 lo ∧ inl64 hi) : Runs sx_X7_in L (xcF scr) (fun x M' => (if lo ≤ v ∧ v ≤ hi then 1 else 0) = x ∧ (M) = M') 0 [wL v, none, wL lo, none, wL hi, none] [] M := by
  refine R_lload_n (q := 1) (i := 0) rfl rfl rfl rfl ?_
  refine R_lload_n (q := 2) (i := 2) rfl rfl rfl rfl ?_
  refine R_lcmp (q := 3) rfl rfl (by omega) (by omega) ?_
  refine R_if_lt (q := 6) (tgt := 17) rfl rfl (by decide) (by omega) (fun h3 => ?_) (fun h3 => ?_)
  · refine R_iconst (q := 18) rfl rfl ?_
    refine R_ret rfl (Or.inr ⟨rfl, (by first | exact Or.inl rfl | exact Or.inr rfl | omega)⟩) ?_
    exact ⟨by split <;> omega, rfl⟩
  · refine R_lload_n (q := 7) (i := 0) rfl rfl rfl rfl ?_
    refine R_lload (q := 9) rfl rfl rfl ?_
    refine R_lcmp (q := 10) rfl rfl (by omega) (by omega) ?_
    refine R_if_gt (q := 13) (tgt := 17) rfl rfl (by decide) (by omega) (fun h10 => ?_) (fun h10 => ?_)
    · refine R_iconst (q := 18) rfl rfl ?_
      refine R_ret rfl (Or.inr ⟨rfl, (by first | exact Or.inl rfl | exact Or.inr rfl | omega)⟩) ?_
      exact ⟨by split <;> omega, rfl⟩
    · refine R_iconst (q := 14) rfl rfl ?_
      refine R_goto (q := 17) (tgt := 18) rfl rfl (by decide) ?_
      refine R_ret rfl (Or.inr ⟨rfl, (by first | exact Or.inl rfl | exact Or.inr rfl | omega)⟩) ?_
      exact ⟨by split <;> omega, rfl⟩
set_option maxRecDepth 100000 in
theorem mt_X7_in : MtOK yX7_in cX7_in 6 (some .boolean) 0 C_X7_in := by
  refine mt_of sx_X7_in (by decide +kernel) (Or.inr (Or.inl ⟨rfl, rfl, rfl⟩)) (by decide +kernel) fdX7_ok kLX7_ok kIX7_ok sgX7_ok ntX7_ok
    (all_nil) ?_ ?_
  · rintro as M - ⟨v, lo, hi, rfl, hp⟩
    exact Nat.le_of_ble_eq_true rfl
  · rintro L scr as M - ⟨v, lo, hi, rfl, hp⟩
    exact Runs.mono (fun x M' h _ _ _ e => by cases e; exact h) (ok_X7_in L scr v lo hi M hp)
