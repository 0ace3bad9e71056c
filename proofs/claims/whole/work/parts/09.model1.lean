/-! THE REFERENCE, leaves first -/
abbrev C_X7_queueAt : Ct := (3, true, fun as M => ∃ (b : Int) (d : Int) (p : Int), as = [wI b, wI d, wI p] ∧ (True), fun as M x M' => ∀ (b : Int) (d : Int) (p : Int), as = [wI b, wI d, wI p] → ((b + 38 + 16 * d + p) = x ∧ (M) = M'))
def sx_X7_queueAt : Sx := (tb_X7_queueAt, fdX7, kLX7, kIX7, sgX7, ntX7, [], 1)
set_option maxRecDepth 100000 in
set_option maxHeartbeats 1000000 in
theorem ok_X7_queueAt (L : Nat) (scr : Int → Int) (b : Int) (d : Int) (p : Int) (M : Mem) (hp : True) : Runs sx_X7_queueAt L (xcF scr) (fun x M' => (b + 38 + 16 * d + p) = x ∧ (M) = M') 0 [wI b, wI d, wI p] [] M := by
  refine R_iload_n (q := 1) (i := 0) rfl rfl rfl rfl ?_
  refine R_bipush (q := 3) rfl rfl (by decide) ?_
  refine R_iadd (q := 4) rfl rfl ?_
  refine R_bipush (q := 6) rfl rfl (by decide) ?_
  refine R_iload_n (q := 7) (i := 1) rfl rfl rfl rfl ?_
  refine R_imul (q := 8) rfl rfl ?_
  refine R_iadd (q := 9) rfl rfl ?_
  refine R_iload_n (q := 10) (i := 2) rfl rfl rfl rfl ?_
  refine R_iadd (q := 11) rfl rfl ?_
  refine R_ret rfl (Or.inl rfl) ?_
  exact ⟨rfl, rfl⟩
set_option maxRecDepth 100000 in
theorem mt_X7_queueAt : MtOK yX7_queueAt cX7_queueAt 3 (some .int) 0 C_X7_queueAt := by
  refine mt_of sx_X7_queueAt (by decide +kernel) (Or.inl ⟨rfl, rfl, rfl⟩) (by decide +kernel) fdX7_ok kLX7_ok kIX7_ok sgX7_ok ntX7_ok
    (all_nil) ?_ ?_
  · rintro as M - ⟨b, d, p, rfl, hp⟩
    exact Nat.le_of_ble_eq_true rfl
  · rintro L scr as M - ⟨b, d, p, rfl, hp⟩
    exact Runs.mono (fun x M' h _ _ _ e => by cases e; exact h) (ok_X7_queueAt L scr b d p M hp)
abbrev C_X7_trunkAt : Ct := (2, true, fun as M => ∃ (b : Int) (t : Int), as = [wI b, wI t] ∧ (True), fun as M x M' => ∀ (b : Int) (t : Int), as = [wI b, wI t] → ((b + 86 + 9 * t) = x ∧ (M) = M'))
def sx_X7_trunkAt : Sx := (tb_X7_trunkAt, fdX7, kLX7, kIX7, sgX7, ntX7, [], 1)
set_option maxRecDepth 100000 in
set_option maxHeartbeats 1000000 in
theorem ok_X7_trunkAt (L : Nat) (scr : Int → Int) (b : Int) (t : Int) (M : Mem) (hp : True) : Runs sx_X7_trunkAt L (xcF scr) (fun x M' => (b + 86 + 9 * t) = x ∧ (M) = M') 0 [wI b, wI t] [] M := by
  refine R_iload_n (q := 1) (i := 0) rfl rfl rfl rfl ?_
  refine R_bipush (q := 3) rfl rfl (by decide) ?_
  refine R_iadd (q := 4) rfl rfl ?_
  refine R_bipush (q := 6) rfl rfl (by decide) ?_
  refine R_iload_n (q := 7) (i := 1) rfl rfl rfl rfl ?_
  refine R_imul (q := 8) rfl rfl ?_
  refine R_iadd (q := 9) rfl rfl ?_
  refine R_ret rfl (Or.inl rfl) ?_
  exact ⟨rfl, rfl⟩
set_option maxRecDepth 100000 in
theorem mt_X7_trunkAt : MtOK yX7_trunkAt cX7_trunkAt 2 (some .int) 0 C_X7_trunkAt := by
  refine mt_of sx_X7_trunkAt (by decide +kernel) (Or.inl ⟨rfl, rfl, rfl⟩) (by decide +kernel) fdX7_ok kLX7_ok kIX7_ok sgX7_ok ntX7_ok
    (all_nil) ?_ ?_
  · rintro as M - ⟨b, t, rfl, hp⟩
    exact Nat.le_of_ble_eq_true rfl
  · rintro L scr as M - ⟨b, t, rfl, hp⟩
    exact Runs.mono (fun x M' h _ _ e => by cases e; exact h) (ok_X7_trunkAt L scr b t M hp)
abbrev C_X7_power : Ct := (1, true, fun as M => ∃ (k : Int), as = [wI k] ∧ (0 ≤ k ∧ k < 6), fun as M x M' => ∀ (k : Int), as = [wI k] → ((pw k) = x ∧ (M) = M'))
def sx_X7_power : Sx := (tb_X7_power, fdX7, kLX7, kIX7, sgX7, ntX7, [], 1)
set_option maxRecDepth 100000 in
set_option maxHeartbeats 1000000 in
theorem ok_X7_power (L : Nat) (scr : Int → Int) (k : Int) (M : Mem) (hp : 0 ≤ k ∧ k < 6) : Runs sx_X7_power L (xcF scr) (fun x M' => (pw k) = x ∧ (M) = M') 0 [wI k, none, none] [] M := by
  have L1 : ∀ (n : Nat) (i v : Int), i + n = 5 → 0 ≤ i → v * 10 ^ n = pw k → Runs sx_X7_power L (xcF scr) (fun x M' => (pw k) = x ∧ M = M') 4 [wI k, wI v, wI i] [] M := by
    intro n
    induction n with
    | zero =>
      intro i v h1 h2 h3
      refine R_iload_n (q := 5) (i := 2) rfl rfl rfl rfl ?_
      refine R_iconst (q := 6) rfl rfl ?_
      refine R_icmp_ge (q := 9) (tgt := 20) rfl rfl (by decide) (by omega) (by omega) (fun h6 => ?_) (fun h6 => ?_)
      · refine R_iload_n (q := 21) (i := 1) rfl rfl rfl rfl ?_
        refine R_ret rfl (Or.inl rfl) ?_
        exact ⟨by rw [← h3]; simp, rfl⟩
      · omega
    | succ n ih =>
      intro i v h1 h2 h3
      refine R_iload_n (q := 5) (i := 2) rfl rfl rfl rfl ?_
      refine R_iconst (q := 6) rfl rfl ?_
      refine R_icmp_ge (q := 9) (tgt := 20) rfl rfl (by decide) (by omega) (by omega) (fun h6 => ?_) (fun h6 => ?_)
      · omega
      · refine R_iload_n (q := 10) (i := 1) rfl rfl rfl rfl ?_
        refine R_bipush (q := 12) rfl rfl (by decide) ?_
        refine R_imul (q := 13) rfl rfl ?_
        refine R_istore_n (q := 14) (i := 1) rfl rfl rfl rfl ?_
        refine R_iinc (q := 17) rfl rfl rfl rfl ?_
        refine R_goto (q := 20) (tgt := 4) rfl rfl (by decide) ?_
        exact ih (i + 1) (v * 10) (by omega) (by omega) (by rw [← h3, Int.pow_succ]; simp only [Int.mul_assoc, Int.mul_comm])
  refine R_iconst (q := 1) rfl rfl ?_
  refine R_istore_n (q := 2) (i := 1) rfl rfl rfl rfl ?_
  refine R_iload_n (q := 3) (i := 0) rfl rfl rfl rfl ?_
  refine R_istore_n (q := 4) (i := 2) rfl rfl rfl rfl ?_
  exact L1 (5 - k).toNat k 1 (by omega) hp.1 (k6 (P := fun k => 1 * 10 ^ (5 - k).toNat = pw k) hp rfl rfl rfl rfl rfl rfl)
set_option maxRecDepth 100000 in
theorem mt_X7_power : MtOK yX7_power cX7_power 3 (some .int) 0 C_X7_power := by
  refine mt_of sx_X7_power (by decide +kernel) (Or.inl ⟨rfl, rfl, rfl⟩) (by decide +kernel) fdX7_ok kLX7_ok kIX7_ok sgX7_ok ntX7_ok
    (all_nil) ?_ ?_
  · rintro as M - ⟨k, rfl, hp⟩
    exact Nat.le_of_ble_eq_true rfl
  · rintro L scr as M - ⟨k, rfl, hp⟩
    exact Runs.mono (fun x M' h _ e => by cases e; exact h) (ok_X7_power L scr k M hp)
abbrev C_X7_piecesOn : Ct := (2, true, fun as M => ∃ (d : Int) (k : Int), as = [wI d, wI k] ∧ ((0 ≤ d ∧ d < 1000000) ∧ 0 ≤ k ∧ k < 6), fun as M x M' => ∀ (d : Int) (k : Int), as = [wI d, wI k] → ((dig d k) = x ∧ (M) = M'))
def sx_X7_piecesOn : Sx := (tb_X7_piecesOn, fdX7, kLX7, kIX7, sgX7, ntX7, [(35, (9, C_X7_power))], 1)
set_option maxRecDepth 100000 in
set_option maxHeartbeats 1000000 in
theorem ok_X7_piecesOn (L : Nat) (scr : Int → Int) (d : Int) (k : Int) (M : Mem) (hp : (0 ≤ d ∧ d < 1000000) ∧ 0 ≤ k ∧ k < 6) : Runs sx_X7_piecesOn L (xcF scr) (fun x M' => (dig d k) = x ∧ (M) = M') 0 [wI d, wI k] [] M := by
  have hw := pw_pos k
  refine R_iload_n (q := 1) (i := 0) rfl rfl rfl rfl ?_
  refine R_iload_n (q := 2) (i := 1) rfl rfl rfl rfl ?_
  refine R_cS1I (q := 5) (ci := 9) (C := C_X7_power) rfl rfl rfl rfl rfl ⟨_, rfl, hp.2⟩ rfl rfl (fun x M' hc => ?_)
  replace hc := hc _ rfl
  try simp only [sh_mr, mr_mr] at hc
  obtain ⟨rfl, rfl⟩ := hc
  refine R_idiv (q := 6) rfl rfl (by omega) ?_
  refine R_bipush (q := 8) rfl rfl (by decide) ?_
  refine R_irem (q := 9) rfl rfl (by omega) ?_
  refine R_ret rfl (Or.inl rfl) ?_
  refine ⟨?_, rfl⟩
  unfold dig
  rw [i32div_of (by omega) (by omega) (by omega) (by omega)]
  rw [i32rem_of (Int.ediv_nonneg (by omega) (by omega)) (Int.lt_of_le_of_lt (Int.ediv_le_self _ (by omega)) (by omega)) (by omega) (by omega)]
set_option maxRecDepth 100000 in
theorem mt_X7_piecesOn : MtOK yX7_piecesOn cX7_piecesOn 2 (some .int) 1 C_X7_piecesOn := by
  refine mt_of sx_X7_piecesOn (by decide +kernel) (Or.inl ⟨rfl, rfl, rfl⟩) (by decide +kernel) fdX7_ok kLX7_ok kIX7_ok sgX7_ok ntX7_ok
    (all_cons (clokS mt_X7_power (GT_at 652 (by decide +kernel) (by decide +kernel)) (GT_at 44 (by decide +kernel) (by decide +kernel)) (GT_at 654 (by decide +kernel) (by decide +kernel)) (by decide +kernel) (by decide) (GT_at 653 (by decide +kernel) (by decide +kernel))) (all_nil)) ?_ ?_
  · rintro as M - ⟨d, k, rfl, hp⟩
    exact Nat.le_of_ble_eq_true rfl
  · rintro L scr as M - ⟨d, k, rfl, hp⟩
    exact Runs.mono (fun x M' h _ _ e => by cases e; exact h) (ok_X7_piecesOn L scr d k M hp)
abbrev C_X7_differs : Ct := (4, true, fun as M => ∃ (o : Nat) (b : Int) (t : Int) (k : Int), as = [wR o, wI b, wI t, wI k] ∧ (o = 11 ∧ (0 ≤ b ∧ b ≤ 4634) ∧ (0 ≤ t ∧ t < 64) ∧ (0 ≤ k ∧ k < 6) ∧ (0 ≤ sh b (M 12) (87 + 9 * t) ∧ sh b (M 12) (87 + 9 * t) < 1000000) ∧ 0 ≤ sh b (M 12) (88 + 9 * t) ∧ sh b (M 12) (88 + 9 * t) < 1000000), fun as M x M' => ∀ (o : Nat) (b : Int) (t : Int) (k : Int), as = [wR o, wI b, wI t, wI k] → ((df (sh b (M 12)) t k) = x ∧ (M) = M'))
def sx_X7_differs : Sx := (tb_X7_differs, fdX7, kLX7, kIX7, sgX7, ntX7, [(39, (9, C_X7_trunkAt)), (42, (9, C_X7_piecesOn))], 1)
set_option maxRecDepth 100000 in
set_option maxHeartbeats 1000000 in
theorem ok_X7_differs (L : Nat) (scr : Int → Int) (o : Nat) (b : Int) (t : Int) (k : Int) (M : Mem) (hp : o = 11 ∧ (0 ≤ b ∧ b ≤ 4634) ∧ (0 ≤ t ∧ t < 64) ∧ (0 ≤ k ∧ k < 6) ∧ (0 ≤ sh b (M 12) (87 + 9 * t) ∧ sh b (M 12) (87 + 9 * t) < 1000000) ∧ 0 ≤ sh b (M 12) (88 + 9 * t) ∧ sh b (M 12) (88 + 9 * t) < 1000000) : Runs sx_X7_differs L (xcF scr) (fun x M' => (df (sh b (M 12)) t k) = x ∧ (M) = M') 0 [wR o, wI b, wI t, wI k, none] [] M := by
  obtain ⟨rfl, h1, h2, h3, h4, h5⟩ := hp
  have b1 := dig_bd (k := k) h4.1
  have b2 := dig_bd (k := k) h5.1
  refine R_aload_n (q := 1) (i := 0) rfl rfl rfl rfl ?_
  refine R_getR (q := 4) rfl rfl rfl rfl rfl (by omega) ?_
  refine R_iload_n (q := 5) (i := 1) rfl rfl rfl rfl ?_
  refine R_iload_n (q := 6) (i := 2) rfl rfl rfl rfl ?_
  refine R_cS2I (q := 9) (ci := 9) (C := C_X7_trunkAt) rfl rfl rfl rfl rfl ⟨_, _, rfl, (by first | trivial | assumption | omega)⟩ rfl rfl (fun x M' hc => ?_)
  replace hc := hc _ _ rfl
  try simp only [sh_mr, mr_mr] at hc
  obtain ⟨rfl, rfl⟩ := hc
  refine R_iconst (q := 10) rfl rfl ?_
  refine R_iadd (q := 11) rfl rfl ?_
  refine R_iald (q := 12) (v := sh b (M 12) (87 + 9 * t)) rfl rfl rfl (by omega) (by omega) (by first | exact rd12 (by omega) | exact rdmr (by omega)) ?_
  refine R_iload_n (q := 13) (i := 3) rfl rfl rfl rfl ?_
  refine R_cS2I (q := 16) (ci := 9) (C := C_X7_piecesOn) rfl rfl rfl rfl rfl ⟨_, _, rfl, ⟨h4, h3⟩⟩ rfl rfl (fun x M' hc => ?_)
  replace hc := hc _ _ rfl
  try simp only [sh_mr, mr_mr] at hc
  obtain ⟨rfl, rfl⟩ := hc
  refine R_aload_n (q := 17) (i := 0) rfl rfl rfl rfl ?_
  refine R_getR (q := 20) rfl rfl rfl rfl rfl (by omega) ?_
  refine R_iload_n (q := 21) (i := 1) rfl rfl rfl rfl ?_
  refine R_iload_n (q := 22) (i := 2) rfl rfl rfl rfl ?_
  refine R_cS2I (q := 25) (ci := 9) (C := C_X7_trunkAt) rfl rfl rfl rfl rfl ⟨_, _, rfl, (by first | trivial | assumption | omega)⟩ rfl rfl (fun x M' hc => ?_)
  replace hc := hc _ _ rfl
  try simp only [sh_mr, mr_mr] at hc
  obtain ⟨rfl, rfl⟩ := hc
  refine R_iconst (q := 26) rfl rfl ?_
  refine R_iadd (q := 27) rfl rfl ?_
  refine R_iald (q := 28) (v := sh b (M 12) (88 + 9 * t)) rfl rfl rfl (by omega) (by omega) (by first | exact rd12 (by omega) | exact rdmr (by omega)) ?_
  refine R_iload_n (q := 29) (i := 3) rfl rfl rfl rfl ?_
  refine R_cS2I (q := 32) (ci := 9) (C := C_X7_piecesOn) rfl rfl rfl rfl rfl ⟨_, _, rfl, ⟨h5, h3⟩⟩ rfl rfl (fun x M' hc => ?_)
  replace hc := hc _ _ rfl
  try simp only [sh_mr, mr_mr] at hc
  obtain ⟨rfl, rfl⟩ := hc
  refine R_isub (q := 33) rfl rfl ?_
  refine R_istore (q := 35) rfl rfl rfl ?_
  refine R_iload (q := 37) rfl rfl rfl ?_
  refine R_if_ge (q := 40) (tgt := 46) rfl rfl (by decide) (by omega) (fun h37 => ?_) (fun h37 => ?_)
  · refine R_iload (q := 48) rfl rfl rfl ?_
    refine R_ret rfl (Or.inl rfl) ?_
    exact ⟨by unfold df iab; split <;> omega, rfl⟩
  · refine R_iload (q := 42) rfl rfl rfl ?_
    refine R_ineg (q := 43) rfl rfl ?_
    refine R_goto (q := 46) (tgt := 48) rfl rfl (by decide) ?_
    refine R_ret rfl (Or.inl rfl) ?_
    exact ⟨by unfold df iab; split <;> omega, rfl⟩
set_option maxRecDepth 100000 in
theorem mt_X7_differs : MtOK yX7_differs cX7_differs 5 (some .int) 2 C_X7_differs := by
  refine mt_of sx_X7_differs (by decide +kernel) (Or.inl ⟨rfl, rfl, rfl⟩) (by decide +kernel) fdX7_ok kLX7_ok kIX7_ok sgX7_ok ntX7_ok
    (all_cons (clokS mt_X7_trunkAt (GT_at 659 (by decide +kernel) (by decide +kernel)) (GT_at 44 (by decide +kernel) (by decide +kernel)) (GT_at 661 (by decide +kernel) (by decide +kernel)) (by decide +kernel) (by decide) (GT_at 660 (by decide +kernel) (by decide +kernel))) (all_cons (clokS mt_X7_piecesOn (GT_at 681 (by decide +kernel) (by decide +kernel)) (GT_at 44 (by decide +kernel) (by decide +kernel)) (GT_at 683 (by decide +kernel) (by decide +kernel)) (by decide +kernel) (by decide) (GT_at 682 (by decide +kernel) (by decide +kernel))) (all_nil))) ?_ ?_
  · rintro as M - ⟨o, b, t, k, rfl, hp⟩
    exact Nat.le_of_ble_eq_true rfl
  · rintro L scr as M - ⟨o, b, t, k, rfl, hp⟩
    exact Runs.mono (fun x M' h _ _ _ _ e => by cases e; exact h) (ok_X7_differs L scr o b t k M hp)
