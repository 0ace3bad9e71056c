def cnV (M : Mem) (f : Int → Int) (w : Int) : Int :=
  if 0 ≤ w ∧ w ≤ 7 then f w else if w = 8 then f 27 + f 31 + f 35 else if 9 ≤ w ∧ w ≤ 14 then f (w - 1) else if w = 15 then tkn f else if w = 16 then f 14 else if w = 17 then M 11 4 else if w = 18 then M 11 1 else -2
abbrev C_X7_count : Ct := (2, true, fun as M => ∃ (o : Nat) (w : Int), as = [wR o, wI w] ∧ (o = 11 ∧ inr w), fun as M x M' => ∀ (o : Nat) (w : Int), as = [wR o, wI w] → ((cnV M (M 12) w) = x ∧ (M) = M'))
def sx_X7_count : Sx := (tb_X7_count, fdX7, kLX7, kIX7, sgX7, ntX7, [(92, (9, C_X7_in)), (136, (7, C_X7_waiting)), (171, (7, C_X7_taken))], 1)
set_option maxRecDepth 100000 in
set_option maxHeartbeats 1000000 in
theorem ok_X7_count (L : Nat) (scr : Int → Int) (o : Nat) (w : Int) (M : Mem) (hp : o = 11 ∧ inr w) : Runs sx_X7_count L (xcF scr) (fun x M' => (cnV M (M 12) w) = x ∧ (M) = M') 0 [wR o, wI w] [] M := by
  obtain ⟨rfl, h1⟩ := hp
  by_cases hz : 0 ≤ w ∧ w ≤ 7
  · refine R_iload_n (q := 1) (i := 1) rfl rfl rfl rfl ?_
    refine R_i2l (q := 2) rfl rfl (by omega) ?_
    refine R_lconst (q := 3) (v := 0) rfl rfl rfl ?_
    refine R_ldc2 (q := 6) rfl rfl rfl ?_
    refine R_cS3I (q := 9) (ci := 9) (C := C_X7_in) rfl rfl rfl rfl rfl ⟨_, _, _, rfl, (by first | trivial | assumption | omega)⟩ rfl rfl (fun x M' hc => ?_)
    replace hc := hc _ _ _ rfl
    rw [if_pos hz] at hc
    obtain ⟨rfl, rfl⟩ := hc
    refine R_if_eq (q := 12) (tgt := 19) rfl rfl (by decide) (by omega) (fun h9 => ?_) (fun h9 => ?_)
    · omega
    · refine R_aload_n (q := 13) (i := 0) rfl rfl rfl rfl ?_
      refine R_getR (q := 16) rfl rfl rfl rfl rfl (by omega) ?_
      refine R_iload_n (q := 17) (i := 1) rfl rfl rfl rfl ?_
      refine R_iald (q := 18) rfl rfl rfl (by omega) (by omega) rfl ?_
      refine R_ret rfl (Or.inl rfl) ?_
      exact ⟨if_pos hz, rfl⟩
  · have hy : w = 8 ∨ w = 9 ∨ w = 10 ∨ w = 11 ∨ w = 12 ∨ w = 13 ∨ w = 14 ∨ w = 15 ∨ w = 16 ∨ w = 17 ∨ w = 18 ∨ (w < 8 ∨ 18 < w) := by omega
    rcases hy with rfl | rfl | rfl | rfl | rfl | rfl | rfl | rfl | rfl | rfl | rfl | hy
    · refine R_iload_n (q := 1) (i := 1) rfl rfl rfl rfl ?_
      refine R_i2l (q := 2) rfl rfl (by omega) ?_
      refine R_lconst (q := 3) (v := 0) rfl rfl rfl ?_
      refine R_ldc2 (q := 6) rfl rfl rfl ?_
      refine R_cS3I (q := 9) (ci := 9) (C := C_X7_in) rfl rfl rfl rfl rfl ⟨_, _, _, rfl, (by first | trivial | assumption | omega)⟩ rfl rfl (fun x M' hc => ?_)
      replace hc := hc _ _ _ rfl
      rw [if_neg hz] at hc
      obtain ⟨rfl, rfl⟩ := hc
      refine R_if_eq (q := 12) (tgt := 19) rfl rfl (by decide) (by omega) (fun h9 => ?_) (fun h9 => ?_)
      · refine R_iload_n (q := 20) (i := 1) rfl rfl rfl rfl ?_
        refine R_tblIn (q := 80) (off := 60) (tgt := 80) rfl rfl (by omega) (by omega) rfl (by decide) ?_
        refine R_aload_n (q := 81) (i := 0) rfl rfl rfl rfl ?_
        refine R_cV0I (q := 84) (ci := 7) (C := C_X7_waiting) rfl rfl rfl rfl rfl ⟨_, rfl, rfl⟩ rfl rfl (by omega) (fun x M' hc => ?_)
        replace hc := hc _ rfl
        obtain ⟨rfl, rfl⟩ := hc
        refine R_ret rfl (Or.inl rfl) ?_
        exact ⟨rfl, rfl⟩
      · omega
    · refine R_iload_n (q := 1) (i := 1) rfl rfl rfl rfl ?_
      refine R_i2l (q := 2) rfl rfl (by omega) ?_
      refine R_lconst (q := 3) (v := 0) rfl rfl rfl ?_
      refine R_ldc2 (q := 6) rfl rfl rfl ?_
      refine R_cS3I (q := 9) (ci := 9) (C := C_X7_in) rfl rfl rfl rfl rfl ⟨_, _, _, rfl, (by first | trivial | assumption | omega)⟩ rfl rfl (fun x M' hc => ?_)
      replace hc := hc _ _ _ rfl
      rw [if_neg hz] at hc
      obtain ⟨rfl, rfl⟩ := hc
      refine R_if_eq (q := 12) (tgt := 19) rfl rfl (by decide) (by omega) (fun h9 => ?_) (fun h9 => ?_)
      · refine R_iload_n (q := 20) (i := 1) rfl rfl rfl rfl ?_
        refine R_tblIn (q := 80) (off := 65) (tgt := 85) rfl rfl (by omega) (by omega) rfl (by decide) ?_
        refine R_aload_n (q := 86) (i := 0) rfl rfl rfl rfl ?_
        refine R_getR (q := 89) rfl rfl rfl rfl rfl (by omega) ?_
        refine R_bipush (q := 91) rfl rfl (by decide) ?_
        refine R_iload_n (q := 92) (i := 1) rfl rfl rfl rfl ?_
        refine R_iadd (q := 93) rfl rfl ?_
        refine R_bipush (q := 95) rfl rfl (by decide) ?_
        refine R_isub (q := 96) rfl rfl ?_
        refine R_iald (q := 97) (v := M 12 8) rfl rfl rfl (by omega) (by omega) (congrArg (M 12) (by omega)) ?_
        refine R_ret rfl (Or.inl rfl) ?_
        exact ⟨rfl, rfl⟩
      · omega
    · refine R_iload_n (q := 1) (i := 1) rfl rfl rfl rfl ?_
      refine R_i2l (q := 2) rfl rfl (by omega) ?_
      refine R_lconst (q := 3) (v := 0) rfl rfl rfl ?_
      refine R_ldc2 (q := 6) rfl rfl rfl ?_
      refine R_cS3I (q := 9) (ci := 9) (C := C_X7_in) rfl rfl rfl rfl rfl ⟨_, _, _, rfl, (by first | trivial | assumption | omega)⟩ rfl rfl (fun x M' hc => ?_)
      replace hc := hc _ _ _ rfl
      rw [if_neg hz] at hc
      obtain ⟨rfl, rfl⟩ := hc
      refine R_if_eq (q := 12) (tgt := 19) rfl rfl (by decide) (by omega) (fun h9 => ?_) (fun h9 => ?_)
      · refine R_iload_n (q := 20) (i := 1) rfl rfl rfl rfl ?_
        refine R_tblIn (q := 80) (off := 65) (tgt := 85) rfl rfl (by omega) (by omega) rfl (by decide) ?_
        refine R_aload_n (q := 86) (i := 0) rfl rfl rfl rfl ?_
        refine R_getR (q := 89) rfl rfl rfl rfl rfl (by omega) ?_
        refine R_bipush (q := 91) rfl rfl (by decide) ?_
        refine R_iload_n (q := 92) (i := 1) rfl rfl rfl rfl ?_
        refine R_iadd (q := 93) rfl rfl ?_
        refine R_bipush (q := 95) rfl rfl (by decide) ?_
        refine R_isub (q := 96) rfl rfl ?_
        refine R_iald (q := 97) (v := M 12 9) rfl rfl rfl (by omega) (by omega) (congrArg (M 12) (by omega)) ?_
        refine R_ret rfl (Or.inl rfl) ?_
        exact ⟨rfl, rfl⟩
      · omega
    · refine R_iload_n (q := 1) (i := 1) rfl rfl rfl rfl ?_
      refine R_i2l (q := 2) rfl rfl (by omega) ?_
      refine R_lconst (q := 3) (v := 0) rfl rfl rfl ?_
      refine R_ldc2 (q := 6) rfl rfl rfl ?_
      refine R_cS3I (q := 9) (ci := 9) (C := C_X7_in) rfl rfl rfl rfl rfl ⟨_, _, _, rfl, (by first | trivial | assumption | omega)⟩ rfl rfl (fun x M' hc => ?_)
      replace hc := hc _ _ _ rfl
      rw [if_neg hz] at hc
      obtain ⟨rfl, rfl⟩ := hc
      refine R_if_eq (q := 12) (tgt := 19) rfl rfl (by decide) (by omega) (fun h9 => ?_) (fun h9 => ?_)
      · refine R_iload_n (q := 20) (i := 1) rfl rfl rfl rfl ?_
        refine R_tblIn (q := 80) (off := 65) (tgt := 85) rfl rfl (by omega) (by omega) rfl (by decide) ?_
        refine R_aload_n (q := 86) (i := 0) rfl rfl rfl rfl ?_
        refine R_getR (q := 89) rfl rfl rfl rfl rfl (by omega) ?_
        refine R_bipush (q := 91) rfl rfl (by decide) ?_
        refine R_iload_n (q := 92) (i := 1) rfl rfl rfl rfl ?_
        refine R_iadd (q := 93) rfl rfl ?_
        refine R_bipush (q := 95) rfl rfl (by decide) ?_
        refine R_isub (q := 96) rfl rfl ?_
        refine R_iald (q := 97) (v := M 12 10) rfl rfl rfl (by omega) (by omega) (congrArg (M 12) (by omega)) ?_
        refine R_ret rfl (Or.inl rfl) ?_
        exact ⟨rfl, rfl⟩
      · omega
    · refine R_iload_n (q := 1) (i := 1) rfl rfl rfl rfl ?_
      refine R_i2l (q := 2) rfl rfl (by omega) ?_
      refine R_lconst (q := 3) (v := 0) rfl rfl rfl ?_
      refine R_ldc2 (q := 6) rfl rfl rfl ?_
      refine R_cS3I (q := 9) (ci := 9) (C := C_X7_in) rfl rfl rfl rfl rfl ⟨_, _, _, rfl, (by first | trivial | assumption | omega)⟩ rfl rfl (fun x M' hc => ?_)
      replace hc := hc _ _ _ rfl
      rw [if_neg hz] at hc
      obtain ⟨rfl, rfl⟩ := hc
      refine R_if_eq (q := 12) (tgt := 19) rfl rfl (by decide) (by omega) (fun h9 => ?_) (fun h9 => ?_)
      · refine R_iload_n (q := 20) (i := 1) rfl rfl rfl rfl ?_
        refine R_tblIn (q := 80) (off := 65) (tgt := 85) rfl rfl (by omega) (by omega) rfl (by decide) ?_
        refine R_aload_n (q := 86) (i := 0) rfl rfl rfl rfl ?_
        refine R_getR (q := 89) rfl rfl rfl rfl rfl (by omega) ?_
        refine R_bipush (q := 91) rfl rfl (by decide) ?_
        refine R_iload_n (q := 92) (i := 1) rfl rfl rfl rfl ?_
        refine R_iadd (q := 93) rfl rfl ?_
        refine R_bipush (q := 95) rfl rfl (by decide) ?_
        refine R_isub (q := 96) rfl rfl ?_
        refine R_iald (q := 97) (v := M 12 11) rfl rfl rfl (by omega) (by omega) (congrArg (M 12) (by omega)) ?_
        refine R_ret rfl (Or.inl rfl) ?_
        exact ⟨rfl, rfl⟩
      · omega
    · refine R_iload_n (q := 1) (i := 1) rfl rfl rfl rfl ?_
      refine R_i2l (q := 2) rfl rfl (by omega) ?_
      refine R_lconst (q := 3) (v := 0) rfl rfl rfl ?_
      refine R_ldc2 (q := 6) rfl rfl rfl ?_
      refine R_cS3I (q := 9) (ci := 9) (C := C_X7_in) rfl rfl rfl rfl rfl ⟨_, _, _, rfl, (by first | trivial | assumption | omega)⟩ rfl rfl (fun x M' hc => ?_)
      replace hc := hc _ _ _ rfl
      rw [if_neg hz] at hc
      obtain ⟨rfl, rfl⟩ := hc
      refine R_if_eq (q := 12) (tgt := 19) rfl rfl (by decide) (by omega) (fun h9 => ?_) (fun h9 => ?_)
      · refine R_iload_n (q := 20) (i := 1) rfl rfl rfl rfl ?_
        refine R_tblIn (q := 80) (off := 65) (tgt := 85) rfl rfl (by omega) (by omega) rfl (by decide) ?_
        refine R_aload_n (q := 86) (i := 0) rfl rfl rfl rfl ?_
        refine R_getR (q := 89) rfl rfl rfl rfl rfl (by omega) ?_
        refine R_bipush (q := 91) rfl rfl (by decide) ?_
        refine R_iload_n (q := 92) (i := 1) rfl rfl rfl rfl ?_
        refine R_iadd (q := 93) rfl rfl ?_
        refine R_bipush (q := 95) rfl rfl (by decide) ?_
        refine R_isub (q := 96) rfl rfl ?_
        refine R_iald (q := 97) (v := M 12 12) rfl rfl rfl (by omega) (by omega) (congrArg (M 12) (by omega)) ?_
        refine R_ret rfl (Or.inl rfl) ?_
        exact ⟨rfl, rfl⟩
      · omega
    · refine R_iload_n (q := 1) (i := 1) rfl rfl rfl rfl ?_
      refine R_i2l (q := 2) rfl rfl (by omega) ?_
      refine R_lconst (q := 3) (v := 0) rfl rfl rfl ?_
      refine R_ldc2 (q := 6) rfl rfl rfl ?_
      refine R_cS3I (q := 9) (ci := 9) (C := C_X7_in) rfl rfl rfl rfl rfl ⟨_, _, _, rfl, (by first | trivial | assumption | omega)⟩ rfl rfl (fun x M' hc => ?_)
      replace hc := hc _ _ _ rfl
      rw [if_neg hz] at hc
      obtain ⟨rfl, rfl⟩ := hc
      refine R_if_eq (q := 12) (tgt := 19) rfl rfl (by decide) (by omega) (fun h9 => ?_) (fun h9 => ?_)
      · refine R_iload_n (q := 20) (i := 1) rfl rfl rfl rfl ?_
        refine R_tblIn (q := 80) (off := 65) (tgt := 85) rfl rfl (by omega) (by omega) rfl (by decide) ?_
        refine R_aload_n (q := 86) (i := 0) rfl rfl rfl rfl ?_
        refine R_getR (q := 89) rfl rfl rfl rfl rfl (by omega) ?_
        refine R_bipush (q := 91) rfl rfl (by decide) ?_
        refine R_iload_n (q := 92) (i := 1) rfl rfl rfl rfl ?_
        refine R_iadd (q := 93) rfl rfl ?_
        refine R_bipush (q := 95) rfl rfl (by decide) ?_
        refine R_isub (q := 96) rfl rfl ?_
        refine R_iald (q := 97) (v := M 12 13) rfl rfl rfl (by omega) (by omega) (congrArg (M 12) (by omega)) ?_
        refine R_ret rfl (Or.inl rfl) ?_
        exact ⟨rfl, rfl⟩
      · omega
    · refine R_iload_n (q := 1) (i := 1) rfl rfl rfl rfl ?_
      refine R_i2l (q := 2) rfl rfl (by omega) ?_
      refine R_lconst (q := 3) (v := 0) rfl rfl rfl ?_
      refine R_ldc2 (q := 6) rfl rfl rfl ?_
      refine R_cS3I (q := 9) (ci := 9) (C := C_X7_in) rfl rfl rfl rfl rfl ⟨_, _, _, rfl, (by first | trivial | assumption | omega)⟩ rfl rfl (fun x M' hc => ?_)
      replace hc := hc _ _ _ rfl
      rw [if_neg hz] at hc
      obtain ⟨rfl, rfl⟩ := hc
      refine R_if_eq (q := 12) (tgt := 19) rfl rfl (by decide) (by omega) (fun h9 => ?_) (fun h9 => ?_)
      · refine R_iload_n (q := 20) (i := 1) rfl rfl rfl rfl ?_
        refine R_tblIn (q := 80) (off := 78) (tgt := 98) rfl rfl (by omega) (by omega) rfl (by decide) ?_
        refine R_aload_n (q := 99) (i := 0) rfl rfl rfl rfl ?_
        refine R_iconst (q := 100) rfl rfl ?_
        refine R_cV1I (q := 103) (ci := 7) (C := C_X7_taken) rfl rfl rfl rfl rfl ⟨_, _, rfl, ⟨rfl, by omega⟩⟩ rfl rfl (by omega) (fun x M' hc => ?_)
        replace hc := hc _ _ rfl
        rw [sh_0] at hc
        obtain ⟨rfl, rfl⟩ := hc
        refine R_ret rfl (Or.inl rfl) ?_
        exact ⟨rfl, rfl⟩
      · omega
    · refine R_iload_n (q := 1) (i := 1) rfl rfl rfl rfl ?_
      refine R_i2l (q := 2) rfl rfl (by omega) ?_
      refine R_lconst (q := 3) (v := 0) rfl rfl rfl ?_
      refine R_ldc2 (q := 6) rfl rfl rfl ?_
      refine R_cS3I (q := 9) (ci := 9) (C := C_X7_in) rfl rfl rfl rfl rfl ⟨_, _, _, rfl, (by first | trivial | assumption | omega)⟩ rfl rfl (fun x M' hc => ?_)
      replace hc := hc _ _ _ rfl
      rw [if_neg hz] at hc
      obtain ⟨rfl, rfl⟩ := hc
      refine R_if_eq (q := 12) (tgt := 19) rfl rfl (by decide) (by omega) (fun h9 => ?_) (fun h9 => ?_)
      · refine R_iload_n (q := 20) (i := 1) rfl rfl rfl rfl ?_
        refine R_tblIn (q := 80) (off := 84) (tgt := 104) rfl rfl (by omega) (by omega) rfl (by decide) ?_
        refine R_aload_n (q := 105) (i := 0) rfl rfl rfl rfl ?_
        refine R_getR (q := 108) rfl rfl rfl rfl rfl (by omega) ?_
        refine R_bipush (q := 110) rfl rfl (by decide) ?_
        refine R_iald (q := 111) rfl rfl rfl (by omega) (by omega) rfl ?_
        refine R_ret rfl (Or.inl rfl) ?_
        exact ⟨rfl, rfl⟩
      · omega
    · refine R_iload_n (q := 1) (i := 1) rfl rfl rfl rfl ?_
      refine R_i2l (q := 2) rfl rfl (by omega) ?_
      refine R_lconst (q := 3) (v := 0) rfl rfl rfl ?_
      refine R_ldc2 (q := 6) rfl rfl rfl ?_
      refine R_cS3I (q := 9) (ci := 9) (C := C_X7_in) rfl rfl rfl rfl rfl ⟨_, _, _, rfl, (by first | trivial | assumption | omega)⟩ rfl rfl (fun x M' hc => ?_)
      replace hc := hc _ _ _ rfl
      rw [if_neg hz] at hc
      obtain ⟨rfl, rfl⟩ := hc
      refine R_if_eq (q := 12) (tgt := 19) rfl rfl (by decide) (by omega) (fun h9 => ?_) (fun h9 => ?_)
      · refine R_iload_n (q := 20) (i := 1) rfl rfl rfl rfl ?_
        refine R_tblIn (q := 80) (off := 92) (tgt := 112) rfl rfl (by omega) (by omega) rfl (by decide) ?_
        refine R_aload_n (q := 113) (i := 0) rfl rfl rfl rfl ?_
        refine R_getI (q := 116) (k1 := 4) rfl rfl rfl rfl rfl (by omega) rfl ?_
        refine R_ret rfl (Or.inl rfl) ?_
        exact ⟨rfl, rfl⟩
      · omega
    · refine R_iload_n (q := 1) (i := 1) rfl rfl rfl rfl ?_
      refine R_i2l (q := 2) rfl rfl (by omega) ?_
      refine R_lconst (q := 3) (v := 0) rfl rfl rfl ?_
      refine R_ldc2 (q := 6) rfl rfl rfl ?_
      refine R_cS3I (q := 9) (ci := 9) (C := C_X7_in) rfl rfl rfl rfl rfl ⟨_, _, _, rfl, (by first | trivial | assumption | omega)⟩ rfl rfl (fun x M' hc => ?_)
      replace hc := hc _ _ _ rfl
      rw [if_neg hz] at hc
      obtain ⟨rfl, rfl⟩ := hc
      refine R_if_eq (q := 12) (tgt := 19) rfl rfl (by decide) (by omega) (fun h9 => ?_) (fun h9 => ?_)
      · refine R_iload_n (q := 20) (i := 1) rfl rfl rfl rfl ?_
        refine R_tblIn (q := 80) (off := 97) (tgt := 117) rfl rfl (by omega) (by omega) rfl (by decide) ?_
        refine R_aload_n (q := 118) (i := 0) rfl rfl rfl rfl ?_
        refine R_getI (q := 121) (k1 := 1) rfl rfl rfl rfl rfl (by omega) rfl ?_
        refine R_ret rfl (Or.inl rfl) ?_
        exact ⟨rfl, rfl⟩
      · omega
    · refine R_iload_n (q := 1) (i := 1) rfl rfl rfl rfl ?_
      refine R_i2l (q := 2) rfl rfl (by omega) ?_
      refine R_lconst (q := 3) (v := 0) rfl rfl rfl ?_
      refine R_ldc2 (q := 6) rfl rfl rfl ?_
      refine R_cS3I (q := 9) (ci := 9) (C := C_X7_in) rfl rfl rfl rfl rfl ⟨_, _, _, rfl, (by first | trivial | assumption | omega)⟩ rfl rfl (fun x M' hc => ?_)
      replace hc := hc _ _ _ rfl
      rw [if_neg hz] at hc
      obtain ⟨rfl, rfl⟩ := hc
      refine R_if_eq (q := 12) (tgt := 19) rfl rfl (by decide) (by omega) (fun h9 => ?_) (fun h9 => ?_)
      · refine R_iload_n (q := 20) (i := 1) rfl rfl rfl rfl ?_
        refine R_tblOut (q := 80) (tgt := 122) rfl rfl (by omega) (by omega) (by decide) ?_
        refine R_bipush (q := 124) rfl rfl (by decide) ?_
        refine R_ret rfl (Or.inl rfl) ?_
        refine ⟨?_, rfl⟩
        unfold cnV
        rw [if_neg hz, if_neg (by omega), if_neg (by omega), if_neg (by omega), if_neg (by omega), if_neg (by omega), if_neg (by omega)]
      · omega
set_option maxRecDepth 100000 in
theorem mt_X7_count : MtOK yX7_count cX7_count 2 (some .int) 2 C_X7_count := by
  refine mt_of sx_X7_count (by decide +kernel) (Or.inl ⟨rfl, rfl, rfl⟩) (by decide +kernel) fdX7_ok kLX7_ok kIX7_ok sgX7_ok ntX7_ok
    (all_cons (clokS mt_X7_in (GT_at 588 (by decide +kernel) (by decide +kernel)) (GT_at 44 (by decide +kernel) (by decide +kernel)) (GT_at 590 (by decide +kernel) (by decide +kernel)) (by decide +kernel) (by decide) (GT_at 589 (by decide +kernel) (by decide +kernel))) (all_cons (clokV mt_X7_waiting rfl (GT_at 655 (by decide +kernel) (by decide +kernel)) (GT_at 44 (by decide +kernel) (by decide +kernel)) (GT_at 658 (by decide +kernel) (by decide +kernel)) (by decide +kernel) (by decide) (GT_at 657 (by decide +kernel) (by decide +kernel)) (GT_at 16 (by decide +kernel) (by decide +kernel)) rfl rfl) (all_cons (clokV mt_X7_taken rfl (GT_at 774 (by decide +kernel) (by decide +kernel)) (GT_at 44 (by decide +kernel) (by decide +kernel)) (GT_at 777 (by decide +kernel) (by decide +kernel)) (by decide +kernel) (by decide) (GT_at 776 (by decide +kernel) (by decide +kernel)) (GT_at 35 (by decide +kernel) (by decide +kernel)) rfl rfl) (all_nil)))) ?_ ?_
  · rintro as M - ⟨o, w, rfl, hp⟩
    exact Nat.le_of_ble_eq_true rfl
  · rintro L scr as M - ⟨o, w, rfl, hp⟩
    exact Runs.mono (fun x M' h _ _ e => by cases e; exact h) (ok_X7_count L scr o w M hp)
abbrev C_X7_wipe : Ct := (1, true, fun as M => ∃ (o : Nat), as = [wR o] ∧ (o = 11), fun as M x M' => ∀ (o : Nat), as = [wR o] → ((M 11 4) = x ∧ (upM M 11 4 0) = M'))
def sx_X7_wipe : Sx := (tb_X7_wipe, fdX7, kLX7, kIX7, sgX7, ntX7, [], 1)
set_option maxRecDepth 100000 in
set_option maxHeartbeats 1000000 in
theorem ok_X7_wipe (L : Nat) (scr : Int → Int) (o : Nat) (M : Mem) (hp : o = 11) : Runs sx_X7_wipe L (xcF scr) (fun x M' => (M 11 4) = x ∧ (upM M 11 4 0) = M') 0 [wR o, none] [] M := by
  subst hp
  refine R_aload_n (q := 1) (i := 0) rfl rfl rfl rfl ?_
  refine R_getI (q := 4) (k1 := 4) rfl rfl rfl rfl rfl (by omega) rfl ?_
  refine R_istore_n (q := 5) (i := 1) rfl rfl rfl rfl ?_
  refine R_aload_n (q := 6) (i := 0) rfl rfl rfl rfl ?_
  refine R_iconst (q := 7) rfl rfl ?_
  refine R_putI (q := 10) (k1 := 4) rfl rfl rfl rfl rfl (by omega) rfl rfl rfl rfl ?_
  refine R_iload_n (q := 11) (i := 1) rfl rfl rfl rfl ?_
  refine R_ret rfl (Or.inl rfl) ?_
  exact ⟨rfl, rfl⟩
set_option maxRecDepth 100000 in
theorem mt_X7_wipe : MtOK yX7_wipe cX7_wipe 2 (some .int) 0 C_X7_wipe := by
  refine mt_of sx_X7_wipe (by decide +kernel) (Or.inl ⟨rfl, rfl, rfl⟩) (by decide +kernel) fdX7_ok kLX7_ok kIX7_ok sgX7_ok ntX7_ok
    (all_nil) ?_ ?_
  · rintro as M - ⟨o, rfl, hp⟩
    exact Nat.le_of_ble_eq_true rfl
  · rintro L scr as M - ⟨o, rfl, hp⟩
    exact Runs.mono (fun x M' h _ e => by cases e; exact h) (ok_X7_wipe L scr o M hp)
abbrev C_X7_undo : Ct := (1, true, fun as M => ∃ (o : Nat), as = [wR o] ∧ (o = 11 ∧ 0 ≤ M 11 1 ∧ M 11 1 ≤ 4), fun as M x M' => ∀ (o : Nat), as = [wR o] → ((M 11 1 = 0 ∧ x = -5 ∧ M = M') ∨ (M 11 1 ≠ 0 ∧ x = M 11 1 - 1 ∧ M' = upM (cpM M 12 (662 * M 11 1) 12 0 662) 11 1 (M 11 1 - 1))))
def sx_X7_undo : Sx := (tb_X7_undo, fdX7, kLX7, kIX7, sgX7, ntX7, [(28, (7, C_X7_copies))], 1)
set_option maxRecDepth 100000 in
set_option maxHeartbeats 1000000 in
theorem ok_X7_undo (L : Nat) (scr : Int → Int) (o : Nat) (M : Mem) (hp : o = 11 ∧ 0 ≤ M 11 1 ∧ M 11 1 ≤ 4) : Runs sx_X7_undo L (xcF scr) (fun x M' => (M 11 1 = 0 ∧ x = -5 ∧ M = M') ∨ (M 11 1 ≠ 0 ∧ x = M 11 1 - 1 ∧ M' = upM (cpM M 12 (662 * M 11 1) 12 0 662) 11 1 (M 11 1 - 1))) 0 [wR o] [] M := by
  obtain ⟨rfl, h1, h2⟩ := hp
  refine R_aload_n (q := 1) (i := 0) rfl rfl rfl rfl ?_
  refine R_getI (q := 4) (k1 := 1) rfl rfl rfl rfl rfl (by omega) rfl ?_
  refine R_if_ne (q := 7) (tgt := 10) rfl rfl (by decide) (by omega) (fun h4 => ?_) (fun h4 => ?_)
  · refine R_aload_n (q := 11) (i := 0) rfl rfl rfl rfl ?_
    refine R_aload_n (q := 12) (i := 0) rfl rfl rfl rfl ?_
    refine R_getI (q := 15) (k1 := 1) rfl rfl rfl rfl rfl (by omega) rfl ?_
    refine R_iconst (q := 16) rfl rfl ?_
    refine R_cV2N (q := 19) (ci := 7) (C := C_X7_copies) rfl rfl rfl rfl rfl ⟨_, _, _, rfl, ⟨rfl, by omega, by omega, by omega⟩⟩ rfl rfl (by omega) (fun M' hc => ?_)
    replace hc := hc _ _ _ rfl
    rw [show (662 : Int) * 0 = 0 from rfl] at hc
    subst hc
    refine R_aload_n (q := 20) (i := 0) rfl rfl rfl rfl ?_
    refine R_dup (q := 21) rfl rfl rfl ?_
    refine R_getI (q := 24) (k1 := 1) rfl rfl rfl rfl rfl (by omega) rfl ?_
    refine R_iconst (q := 25) rfl rfl ?_
    refine R_isub (q := 26) rfl rfl ?_
    refine R_putI (q := 29) (k1 := 1) rfl rfl rfl rfl rfl (by omega) rfl rfl rfl rfl ?_
    refine R_aload_n (q := 30) (i := 0) rfl rfl rfl rfl ?_
    refine R_getI (q := 33) (k1 := 1) rfl rfl rfl rfl rfl (by omega) rfl ?_
    refine R_ret rfl (Or.inl rfl) ?_
    first | exact Or.inl ⟨by omega, rfl, rfl⟩ | (refine Or.inr ⟨h4, ?_, ?_⟩; (rw [upM_s, cp_r (show (11 : Nat) ≠ 12 by decide)]); (rw [cp_r (show (11 : Nat) ≠ 12 by decide)]))
  · refine R_bipush (q := 9) rfl rfl (by decide) ?_
    refine R_ret rfl (Or.inl rfl) ?_
    first | exact Or.inl ⟨by omega, rfl, rfl⟩ | (refine Or.inr ⟨h4, ?_, ?_⟩; (rw [upM_s, cp_r (show (11 : Nat) ≠ 12 by decide)]); (rw [cp_r (show (11 : Nat) ≠ 12 by decide)]))
set_option maxRecDepth 100000 in
theorem mt_X7_undo : MtOK yX7_undo cX7_undo 1 (some .int) 1 C_X7_undo := by
  refine mt_of sx_X7_undo (by decide +kernel) (Or.inl ⟨rfl, rfl, rfl⟩) (by decide +kernel) fdX7_ok kLX7_ok kIX7_ok sgX7_ok ntX7_ok
    (all_cons (clokV mt_X7_copies rfl (GT_at 604 (by decide +kernel) (by decide +kernel)) (GT_at 44 (by decide +kernel) (by decide +kernel)) (GT_at 607 (by decide +kernel) (by decide +kernel)) (by decide +kernel) (by decide) (GT_at 606 (by decide +kernel) (by decide +kernel)) (GT_at 12 (by decide +kernel) (by decide +kernel)) rfl rfl) (all_nil)) ?_ ?_
  · rintro as M - ⟨o, rfl, hp⟩
    exact Nat.le_of_ble_eq_true rfl
  · rintro L scr as M - ⟨o, rfl, hp⟩
    exact Runs.mono (fun x M' h _ e => by cases e; exact h) (ok_X7_undo L scr o M hp)
abbrev C_X7_save : Ct := (2, true, fun as M => ∃ (o : Nat) (s : Int), as = [wR o, wI s] ∧ (o = 11 ∧ inr s), fun as M x M' => ∀ (o : Nat) (s : Int), as = [wR o, wI s] → ((¬ (s = 0 ∨ s = 1) ∧ x = -2 ∧ M = M') ∨ ((s = 0 ∨ s = 1) ∧ x = M 12 6 ∧ M' = upM (cpM M 12 0 12 (662 * (5 + s)) 662) 13 s 1)))
def sx_X7_save : Sx := (tb_X7_save, fdX7, kLX7, kIX7, sgX7, ntX7, [(196, (9, C_X7_isSlot)), (28, (7, C_X7_copies))], 1)
set_option maxRecDepth 100000 in
set_option maxHeartbeats 1000000 in
theorem ok_X7_save (L : Nat) (scr : Int → Int) (o : Nat) (s : Int) (M : Mem) (hp : o = 11 ∧ inr s) : Runs sx_X7_save L (xcF scr) (fun x M' => (¬ (s = 0 ∨ s = 1) ∧ x = -2 ∧ M = M') ∨ ((s = 0 ∨ s = 1) ∧ x = M 12 6 ∧ M' = upM (cpM M 12 0 12 (662 * (5 + s)) 662) 13 s 1)) 0 [wR o, wI s] [] M := by
  obtain ⟨rfl, h1⟩ := hp
  by_cases hz : s = 0 ∨ s = 1
  · refine R_iload_n (q := 1) (i := 1) rfl rfl rfl rfl ?_
    refine R_cS1I (q := 4) (ci := 9) (C := C_X7_isSlot) rfl rfl rfl rfl rfl ⟨_, rfl, (by first | trivial | assumption | omega)⟩ rfl rfl (fun x M' hc => ?_)
    replace hc := hc _ rfl
    rw [if_pos hz] at hc
    obtain ⟨rfl, rfl⟩ := hc
    refine R_if_ne (q := 7) (tgt := 10) rfl rfl (by decide) (by omega) (fun h4 => ?_) (fun h4 => ?_)
    · refine R_aload_n (q := 11) (i := 0) rfl rfl rfl rfl ?_
      refine R_iconst (q := 12) rfl rfl ?_
      refine R_iconst (q := 13) rfl rfl ?_
      refine R_iload_n (q := 14) (i := 1) rfl rfl rfl rfl ?_
      refine R_iadd (q := 15) rfl rfl ?_
      refine R_cV2N (q := 18) (ci := 7) (C := C_X7_copies) rfl rfl rfl rfl rfl ⟨_, _, _, rfl, ⟨rfl, by omega, by omega, by omega⟩⟩ rfl rfl (by omega) (fun M' hc => ?_)
      replace hc := hc _ _ _ rfl
      rw [show (662 : Int) * 0 = 0 from rfl] at hc
      subst hc
      refine R_aload_n (q := 19) (i := 0) rfl rfl rfl rfl ?_
      refine R_getR (q := 22) rfl rfl rfl rfl rfl (by omega) ?_
      refine R_iload_n (q := 23) (i := 1) rfl rfl rfl rfl ?_
      refine R_iconst (q := 24) rfl rfl ?_
      refine R_zast (q := 25) rfl rfl rfl (by omega) (by omega) (Or.inr rfl) rfl ?_
      refine R_aload_n (q := 26) (i := 0) rfl rfl rfl rfl ?_
      refine R_getR (q := 29) rfl rfl rfl rfl rfl (by omega) ?_
      refine R_bipush (q := 31) rfl rfl (by decide) ?_
      refine R_iald (q := 32) (v := M 12 6) rfl rfl rfl (by omega) (by omega) (by rw [upM_r (by decide)]; exact cp_n (by omega)) ?_
      refine R_ret rfl (Or.inl rfl) ?_
      exact Or.inr ⟨hz, rfl, rfl⟩
    · omega
  · refine R_iload_n (q := 1) (i := 1) rfl rfl rfl rfl ?_
    refine R_cS1I (q := 4) (ci := 9) (C := C_X7_isSlot) rfl rfl rfl rfl rfl ⟨_, rfl, (by first | trivial | assumption | omega)⟩ rfl rfl (fun x M' hc => ?_)
    replace hc := hc _ rfl
    rw [if_neg hz] at hc
    obtain ⟨rfl, rfl⟩ := hc
    refine R_if_ne (q := 7) (tgt := 10) rfl rfl (by decide) (by omega) (fun h4 => ?_) (fun h4 => ?_)
    · omega
    · refine R_bipush (q := 9) rfl rfl (by decide) ?_
      refine R_ret rfl (Or.inl rfl) ?_
      exact Or.inl ⟨hz, rfl, rfl⟩
set_option maxRecDepth 100000 in
theorem mt_X7_save : MtOK yX7_save cX7_save 2 (some .int) 1 C_X7_save := by
  refine mt_of sx_X7_save (by decide +kernel) (Or.inl ⟨rfl, rfl, rfl⟩) (by decide +kernel) fdX7_ok kLX7_ok kIX7_ok sgX7_ok ntX7_ok
    (all_cons (clokS mt_X7_isSlot (GT_at 830 (by decide +kernel) (by decide +kernel)) (GT_at 44 (by decide +kernel) (by decide +kernel)) (GT_at 832 (by decide +kernel) (by decide +kernel)) (by decide +kernel) (by decide) (GT_at 831 (by decide +kernel) (by decide +kernel))) (all_cons (clokV mt_X7_copies rfl (GT_at 604 (by decide +kernel) (by decide +kernel)) (GT_at 44 (by decide +kernel) (by decide +kernel)) (GT_at 607 (by decide +kernel) (by decide +kernel)) (by decide +kernel) (by decide) (GT_at 606 (by decide +kernel) (by decide +kernel)) (GT_at 12 (by decide +kernel) (by decide +kernel)) rfl rfl) (all_nil))) ?_ ?_
  · rintro as M - ⟨o, s, rfl, hp⟩
    exact Nat.le_of_ble_eq_true rfl
  · rintro L scr as M - ⟨o, s, rfl, hp⟩
    exact Runs.mono (fun x M' h _ _ e => by cases e; exact h) (ok_X7_save L scr o s M hp)
abbrev C_X7_restore : Ct := (2, true, fun as M => ∃ (o : Nat) (s : Int), as = [wR o, wI s] ∧ (o = 11 ∧ inr s ∧ (0 ≤ M 13 s ∧ M 13 s ≤ 1) ∧ 0 ≤ M 11 1 ∧ M 11 1 ≤ 4), fun as M x M' => ∀ (o : Nat) (s : Int), as = [wR o, wI s] → ((¬ (s = 0 ∨ s = 1) ∧ x = -2 ∧ M = M') ∨ ((s = 0 ∨ s = 1) ∧ M 13 s = 0 ∧ x = -5 ∧ M = M') ∨ ((s = 0 ∨ s = 1) ∧ M 13 s = 1 ∧ x = M 12 (662 * (5 + s) + 6) ∧ Chg M M' (fun i => M 12 (662 * (5 + s) + i)) ∧ Fr M M' ∧ ∀ k, k ≠ 1 → M' 11 k = M 11 k)))
def sx_X7_restore : Sx := (tb_X7_restore, fdX7, kLX7, kIX7, sgX7, ntX7, [(196, (9, C_X7_isSlot)), (32, (7, C_X7_changes)), (28, (7, C_X7_copies))], 1)
set_option maxRecDepth 100000 in
set_option maxHeartbeats 1000000 in
theorem ok_X7_restore (L : Nat) (scr : Int → Int) (o : Nat) (s : Int) (M : Mem) (hp : o = 11 ∧ inr s ∧ (0 ≤ M 13 s ∧ M 13 s ≤ 1) ∧ 0 ≤ M 11 1 ∧ M 11 1 ≤ 4) : Runs sx_X7_restore L (xcF scr) (fun x M' => (¬ (s = 0 ∨ s = 1) ∧ x = -2 ∧ M = M') ∨ ((s = 0 ∨ s = 1) ∧ M 13 s = 0 ∧ x = -5 ∧ M = M') ∨ ((s = 0 ∨ s = 1) ∧ M 13 s = 1 ∧ x = M 12 (662 * (5 + s) + 6) ∧ Chg M M' (fun i => M 12 (662 * (5 + s) + i)) ∧ Fr M M' ∧ ∀ k, k ≠ 1 → M' 11 k = M 11 k)) 0 [wR o, wI s] [] M := by
  obtain ⟨rfl, h1, h2, hs⟩ := hp
  by_cases hz : s = 0 ∨ s = 1
  · by_cases hy : M 13 s = 0
    · refine R_iload_n (q := 1) (i := 1) rfl rfl rfl rfl ?_
      refine R_cS1I (q := 4) (ci := 9) (C := C_X7_isSlot) rfl rfl rfl rfl rfl ⟨_, rfl, (by first | trivial | assumption | omega)⟩ rfl rfl (fun x M' hc => ?_)
      replace hc := hc _ rfl
      rw [if_pos hz] at hc
      obtain ⟨rfl, rfl⟩ := hc
      refine R_if_ne (q := 7) (tgt := 10) rfl rfl (by decide) (by omega) (fun h4 => ?_) (fun h4 => ?_)
      · refine R_aload_n (q := 11) (i := 0) rfl rfl rfl rfl ?_
        refine R_getR (q := 14) rfl rfl rfl rfl rfl (by omega) ?_
        refine R_iload_n (q := 15) (i := 1) rfl rfl rfl rfl ?_
        refine R_zald (q := 16) rfl rfl rfl (by omega) (by omega) rfl ?_
        refine R_if_ne (q := 19) (tgt := 22) rfl rfl (by decide) (by omega) (fun h16 => ?_) (fun h16 => ?_)
        · omega
        · refine R_bipush (q := 21) rfl rfl (by decide) ?_
          refine R_ret rfl (Or.inl rfl) ?_
          exact Or.inr (Or.inl ⟨hz, hy, rfl, rfl⟩)
      · omega
    · refine R_iload_n (q := 1) (i := 1) rfl rfl rfl rfl ?_
      refine R_cS1I (q := 4) (ci := 9) (C := C_X7_isSlot) rfl rfl rfl rfl rfl ⟨_, rfl, (by first | trivial | assumption | omega)⟩ rfl rfl (fun x M' hc => ?_)
      replace hc := hc _ rfl
      rw [if_pos hz] at hc
      obtain ⟨rfl, rfl⟩ := hc
      refine R_if_ne (q := 7) (tgt := 10) rfl rfl (by decide) (by omega) (fun h4 => ?_) (fun h4 => ?_)
      · refine R_aload_n (q := 11) (i := 0) rfl rfl rfl rfl ?_
        refine R_getR (q := 14) rfl rfl rfl rfl rfl (by omega) ?_
        refine R_iload_n (q := 15) (i := 1) rfl rfl rfl rfl ?_
        refine R_zald (q := 16) rfl rfl rfl (by omega) (by omega) rfl ?_
        refine R_if_ne (q := 19) (tgt := 22) rfl rfl (by decide) (by omega) (fun h16 => ?_) (fun h16 => ?_)
        · refine R_aload_n (q := 23) (i := 0) rfl rfl rfl rfl ?_
          refine R_cV0N (q := 26) (ci := 7) (C := C_X7_changes) rfl rfl rfl rfl rfl ⟨_, rfl, ⟨rfl, hs⟩⟩ rfl rfl (by omega) (fun M' hc => ?_)
          replace hc := hc _ rfl
          obtain ⟨⟨c1, c2, c3, c4⟩, hF, hK⟩ := hc
          refine R_aload_n (q := 27) (i := 0) rfl rfl rfl rfl ?_
          refine R_iconst (q := 28) rfl rfl ?_
          refine R_iload_n (q := 29) (i := 1) rfl rfl rfl rfl ?_
          refine R_iadd (q := 30) rfl rfl ?_
          refine R_iconst (q := 31) rfl rfl ?_
          refine R_cV2N (q := 34) (ci := 7) (C := C_X7_copies) rfl rfl rfl rfl rfl ⟨_, _, _, rfl, ⟨rfl, by omega, by omega, by omega⟩⟩ rfl rfl (by omega) (fun M' hc => ?_)
          replace hc := hc _ _ _ rfl
          rw [show (662 : Int) * 0 = 0 from rfl] at hc
          subst hc
          refine R_aload_n (q := 35) (i := 0) rfl rfl rfl rfl ?_
          refine R_getR (q := 38) rfl rfl rfl rfl rfl (by omega) ?_
          refine R_bipush (q := 40) rfl rfl (by decide) ?_
          refine R_iald (q := 41) (v := M 12 (662 * (5 + s) + 6)) rfl rfl rfl (by omega) (by omega) (Eq.trans (cp_p (by omega)) (c2 _ (by omega) (by omega))) ?_
          refine R_ret rfl (Or.inl rfl) ?_
          refine Or.inr (Or.inr ⟨hz, by omega, rfl, ⟨fun i a b => ?_, fun i a b => ?_, ?_, fun j i a b c d => ?_⟩, fun r a b => ?_, fun k a => ?_⟩)
          · rw [cp_p (by omega), show (662 : Int) * (5 + s) + (i - 0) = 662 * (5 + s) + i by omega, c2 _ (by omega) (by omega)]
          · rw [cp_n (by omega), c2 i a b]
          · rw [cp_r (by decide), c3]
          · rw [cp_r (show (11 : Nat) ≠ 12 by decide)] at b ⊢
            rw [cp_n (by omega), c4 j i a b c d]
          · rw [cp_r b, hF r a b]
          · rw [cp_r (by decide), hK k a]
        · omega
      · omega
  · refine R_iload_n (q := 1) (i := 1) rfl rfl rfl rfl ?_
    refine R_cS1I (q := 4) (ci := 9) (C := C_X7_isSlot) rfl rfl rfl rfl rfl ⟨_, rfl, (by first | trivial | assumption | omega)⟩ rfl rfl (fun x M' hc => ?_)
    replace hc := hc _ rfl
    rw [if_neg hz] at hc
    obtain ⟨rfl, rfl⟩ := hc
    refine R_if_ne (q := 7) (tgt := 10) rfl rfl (by decide) (by omega) (fun h4 => ?_) (fun h4 => ?_)
    · omega
    · refine R_bipush (q := 9) rfl rfl (by decide) ?_
      refine R_ret rfl (Or.inl rfl) ?_
      exact Or.inl ⟨hz, rfl, rfl⟩
set_option maxRecDepth 100000 in
theorem mt_X7_restore : MtOK yX7_restore cX7_restore 2 (some .int) 2 C_X7_restore := by
  refine mt_of sx_X7_restore (by decide +kernel) (Or.inl ⟨rfl, rfl, rfl⟩) (by decide +kernel) fdX7_ok kLX7_ok kIX7_ok sgX7_ok ntX7_ok
    (all_cons (clokS mt_X7_isSlot (GT_at 830 (by decide +kernel) (by decide +kernel)) (GT_at 44 (by decide +kernel) (by decide +kernel)) (GT_at 832 (by decide +kernel) (by decide +kernel)) (by decide +kernel) (by decide) (GT_at 831 (by decide +kernel) (by decide +kernel))) (all_cons (clokV mt_X7_changes rfl (GT_at 600 (by decide +kernel) (by decide +kernel)) (GT_at 44 (by decide +kernel) (by decide +kernel)) (GT_at 603 (by decide +kernel) (by decide +kernel)) (by decide +kernel) (by decide) (GT_at 602 (by decide +kernel) (by decide +kernel)) (GT_at 11 (by decide +kernel) (by decide +kernel)) rfl rfl) (all_cons (clokV mt_X7_copies rfl (GT_at 604 (by decide +kernel) (by decide +kernel)) (GT_at 44 (by decide +kernel) (by decide +kernel)) (GT_at 607 (by decide +kernel) (by decide +kernel)) (by decide +kernel) (by decide) (GT_at 606 (by decide +kernel) (by decide +kernel)) (GT_at 12 (by decide +kernel) (by decide +kernel)) rfl rfl) (all_nil)))) ?_ ?_
  · rintro as M - ⟨o, s, rfl, hp⟩
    exact Nat.le_of_ble_eq_true rfl
  · rintro L scr as M - ⟨o, s, rfl, hp⟩
    exact Runs.mono (fun x M' h _ _ e => by cases e; exact h) (ok_X7_restore L scr o s M hp)
