noncomputable def lsm (f : Int → Int) : Nat → Int → Int
  | 0, _ => -6
  | n + 1, k => if tnN N200 (us f 0 k) 9 = f 9 then k else lsm f n (k + 1)
theorem us0_Inv {f : Int → Int} {k : Int} (hk : 0 ≤ k ∧ k ≤ 200) (I : Inv f) : Inv (us f 0 k) := by
  obtain ⟨iB, i7, iC, i16, iD, iE, iF, g8, g9, g10, g14⟩ := I
  have o : ∀ j, j ≠ 0 → us f 0 k j = f j := fun j h => us_n h
  refine ⟨?_, by rw [o 6 (by omega), o 7 (by omega)]; exact i7, fun e a b => by rw [o _ (by omega), o _ (by omega)]; exact iC e a b, by rw [o 27 (by omega), o 31 (by omega), o 35 (by omega)]; exact i16, fun e p q => ?_, fun e p e' p' q q' hh => ?_, fun t a b => ?_, ?_, ?_, ?_, ?_⟩
  · obtain ⟨a, b, c, d⟩ := iB
    refine ⟨?_, fun k k0 k1 => ?_, fun k k0 k1 => ?_, fun t t0 t1 => ?_⟩
    · rw [us_s, o 1 (by omega), o 2 (by omega), o 3 (by omega), o 4 (by omega), o 5 (by omega)]
      exact ⟨hk, a.2⟩
    · rw [o _ (by omega)]
      exact b k k0 k1
    · rw [o _ (by omega)]
      exact c k k0 k1
    · rw [o _ (by omega), o _ (by omega), o _ (by omega), o _ (by omega)]
      exact d t t0 t1
  · obtain ⟨a, b, x, y⟩ := q
    rw [o _ (by omega)] at y
    have := iD e p ⟨a, b, x, y⟩
    rw [o (38 + 16 * e + p) (by omega), o 7 (by omega), o (90 + 9 * f (38 + 16 * e + p)) (by omega)]
    exact this
  · obtain ⟨a, b, x, y⟩ := q
    obtain ⟨a', b', x', y'⟩ := q'
    rw [o _ (by omega)] at y y'
    rw [o _ (by omega), o _ (by omega)] at hh
    exact iE e p e' p' ⟨a, b, x, y⟩ ⟨a', b', x', y'⟩ hh
  · rw [o 7 (by omega)] at b
    rw [o _ (by omega), o _ (by omega)]
    obtain ⟨r1, r2, r3⟩ := iF t a b
    refine ⟨r1, r2, fun z => ⟨(r3 z).1, ?_⟩⟩
    obtain ⟨e, p, ⟨x1, x2, x3, x4⟩, h2⟩ := (r3 z).2
    exact ⟨e, p, ⟨x1, x2, x3, by rw [o _ (by omega)]; exact x4⟩, by rw [o _ (by omega)]; exact h2⟩
  · rw [o 8 (by omega), o 7 (by omega), g8]
    exact (cF_same _ (fun t a b => o _ (by omega))).symm
  · rw [o 9 (by omega), o 7 (by omega), g9]
    exact (cF_same _ (fun t a b => o _ (by omega))).symm
  · rw [o 10 (by omega), o 7 (by omega), g10]
    exact (cF_same _ (fun t a b => o _ (by omega))).symm
  · rw [o 14 (by omega), o 7 (by omega), g14]
    exact (cU_same _ (fun t a b => ⟨o _ (by omega), o _ (by omega)⟩)).symm
abbrev C_X7_leastSmall : Ct := (1, true, fun as M => ∃ (o : Nat), as = [wR o] ∧ (o = 11 ∧ Inv (M 12)), fun as M x M' => ∀ (o : Nat), as = [wR o] → (x = lsm (tau M) 201 0 ∧ Tr M M'))
def sx_X7_leastSmall : Sx := (tb_X7_leastSmall, fdX7, kLX7, kIX7, sgX7, ntX7, [(28, (7, C_X7_copies)), (160, (7, C_X7_turnsBy))], 1)
set_option maxRecDepth 100000 in
set_option maxHeartbeats 1000000 in
theorem ok_X7_leastSmall (L : Nat) (scr : Int → Int) (o : Nat) (M : Mem) (hp : o = 11 ∧ Inv (M 12)) : Runs sx_X7_leastSmall L (xcF scr) (fun x M' => x = lsm (tau M) 201 0 ∧ Tr M M') 0 [wR o, none, none, none] [] M := by
  obtain ⟨rfl, I⟩ := hp
  have It := tau_Inv I
  have tw := tau_w (M := M)
  have gb := gone_bd It
  have L1 : ∀ (n : Nat) (k : Int) (g : Int → Int) (x3 : PV), 0 ≤ k → k + n = 201 → Out g (tau M) → lsm (tau M) n k = lsm (tau M) 201 0 → Runs sx_X7_leastSmall L (xcF scr) (fun x M' => x = lsm (tau M) 201 0 ∧ Tr M M') 6 [wR 11, wI 4634, wI k, x3] [] (mr 4634 M g) := by
    intro n
    induction n with
    | zero =>
      intro k g x3 h0 hk hg e
      have e : -6 = lsm (tau M) 201 0 := e
      refine R_iload_n (q := 7) (i := 2) rfl rfl rfl rfl ?_
      refine R_sipush (q := 10) rfl rfl (by decide) ?_
      refine R_icmp_gt (q := 13) (tgt := 65) rfl rfl (by decide) (by omega) (by omega) (fun h10 => ?_) (fun h10 => ?_)
      · refine R_bipush (q := 67) rfl rfl (by decide) ?_
        refine R_ret rfl (Or.inl rfl) ?_
        exact ⟨e, Tr_mr hg⟩
      · omega
    | succ n ih =>
      intro k g x3 h0 hk hg e
      have iU := us0_Inv (k := k) (by omega) It
      have oU : Out (tnN N200 (us (tau M) 0 k)) (tau M) := Out_tnN N200 iU (fun j hj => us_n (by omega))
      have gU := gone_bd (tnN_Inv N200 _ iU).1
      have e53 : mr 4634 M (tnN N200 (us (tau M) 0 k)) 12 9 = tau M 9 := by rw [(Tr_mr oU).1 _ (by omega), tw _ (by omega) (by omega)]
      by_cases hz : tnN N200 (us (tau M) 0 k) 9 = tau M 9
      · rw [show lsm (tau M) (n + 1) k = k from if_pos hz] at e
        refine R_iload_n (q := 7) (i := 2) rfl rfl rfl rfl ?_
        refine R_sipush (q := 10) rfl rfl (by decide) ?_
        refine R_icmp_gt (q := 13) (tgt := 65) rfl rfl (by decide) (by omega) (by omega) (fun h10 => ?_) (fun h10 => ?_)
        · omega
        · refine R_aload_n (q := 14) (i := 0) rfl rfl rfl rfl ?_
          refine R_iconst (q := 15) rfl rfl ?_
          refine R_bipush (q := 17) rfl rfl (by decide) ?_
          refine R_cV2N (q := 20) (ci := 7) (C := C_X7_copies) rfl rfl rfl rfl rfl ⟨_, _, _, rfl, ⟨rfl, by omega, by omega, by omega⟩⟩ rfl rfl (by omega) (fun M' hc => ?_)
          replace hc := hc _ _ _ rfl
          rw [show (662 : Int) * 0 = 0 from rfl, show (662 : Int) * 7 = 4634 from rfl, cp7 hg] at hc
          subst hc
          refine R_aload_n (q := 21) (i := 0) rfl rfl rfl rfl ?_
          refine R_getR (q := 24) rfl rfl rfl rfl rfl (by omega) ?_
          refine R_iload_n (q := 25) (i := 1) rfl rfl rfl rfl ?_
          refine R_iconst (q := 26) rfl rfl ?_
          refine R_iadd (q := 27) rfl rfl ?_
          refine R_iload_n (q := 28) (i := 2) rfl rfl rfl rfl ?_
          refine R_iast (q := 29) (M2 := mr 4634 M (us (tau M) 0 k)) rfl rfl rfl (by omega) (by omega) (upmr (by omega)) ?_
          refine R_aload_n (q := 30) (i := 0) rfl rfl rfl rfl ?_
          refine R_iload_n (q := 31) (i := 1) rfl rfl rfl rfl ?_
          refine R_sipush (q := 34) rfl rfl (by decide) ?_
          refine R_cV2I (q := 37) (ci := 7) (C := C_X7_turnsBy) rfl rfl rfl rfl rfl ⟨_, _, _, rfl, ⟨rfl, by omega, by rw [sh_mr]; exact iU, by omega⟩⟩ rfl rfl (by omega) (fun x M' hc => ?_)
          replace hc := hc _ _ _ rfl
          obtain ⟨hx, hc⟩ := hc
          rw [mr_mr] at hc
          simp only [sh_mr, show (200 : Int).toNat = N200 from N200_eq.symm] at hc
          subst hc
          refine R_istore_n (q := 38) (i := 3) rfl rfl rfl rfl ?_
          refine R_aload_n (q := 39) (i := 0) rfl rfl rfl rfl ?_
          refine R_getR (q := 42) rfl rfl rfl rfl rfl (by omega) ?_
          refine R_iload_n (q := 43) (i := 1) rfl rfl rfl rfl ?_
          refine R_bipush (q := 45) rfl rfl (by decide) ?_
          refine R_iadd (q := 46) rfl rfl ?_
          refine R_iald (q := 47) (v := tnN N200 (us (tau M) 0 k) 9) rfl rfl rfl (by omega) (by omega) (by first | exact rd12 (by omega) | exact rdmr (by omega)) ?_
          refine R_aload_n (q := 48) (i := 0) rfl rfl rfl rfl ?_
          refine R_getR (q := 51) rfl rfl rfl rfl rfl (by omega) ?_
          refine R_bipush (q := 53) rfl rfl (by decide) ?_
          refine R_iald (q := 54) (v := tau M 9) rfl rfl rfl (by omega) (by omega) e53 ?_
          refine R_icmp_ne (q := 57) (tgt := 59) rfl rfl (by decide) (by omega) (by omega) (fun h54 => ?_) (fun h54 => ?_)
          · exact absurd hz h54
          · refine R_iload_n (q := 58) (i := 2) rfl rfl rfl rfl ?_
            refine R_ret rfl (Or.inl rfl) ?_
            exact ⟨e, Tr_mr oU⟩
      · rw [show lsm (tau M) (n + 1) k = lsm (tau M) n (k + 1) from if_neg hz] at e
        refine R_iload_n (q := 7) (i := 2) rfl rfl rfl rfl ?_
        refine R_sipush (q := 10) rfl rfl (by decide) ?_
        refine R_icmp_gt (q := 13) (tgt := 65) rfl rfl (by decide) (by omega) (by omega) (fun h10 => ?_) (fun h10 => ?_)
        · omega
        · refine R_aload_n (q := 14) (i := 0) rfl rfl rfl rfl ?_
          refine R_iconst (q := 15) rfl rfl ?_
          refine R_bipush (q := 17) rfl rfl (by decide) ?_
          refine R_cV2N (q := 20) (ci := 7) (C := C_X7_copies) rfl rfl rfl rfl rfl ⟨_, _, _, rfl, ⟨rfl, by omega, by omega, by omega⟩⟩ rfl rfl (by omega) (fun M' hc => ?_)
          replace hc := hc _ _ _ rfl
          rw [show (662 : Int) * 0 = 0 from rfl, show (662 : Int) * 7 = 4634 from rfl, cp7 hg] at hc
          subst hc
          refine R_aload_n (q := 21) (i := 0) rfl rfl rfl rfl ?_
          refine R_getR (q := 24) rfl rfl rfl rfl rfl (by omega) ?_
          refine R_iload_n (q := 25) (i := 1) rfl rfl rfl rfl ?_
          refine R_iconst (q := 26) rfl rfl ?_
          refine R_iadd (q := 27) rfl rfl ?_
          refine R_iload_n (q := 28) (i := 2) rfl rfl rfl rfl ?_
          refine R_iast (q := 29) (M2 := mr 4634 M (us (tau M) 0 k)) rfl rfl rfl (by omega) (by omega) (upmr (by omega)) ?_
          refine R_aload_n (q := 30) (i := 0) rfl rfl rfl rfl ?_
          refine R_iload_n (q := 31) (i := 1) rfl rfl rfl rfl ?_
          refine R_sipush (q := 34) rfl rfl (by decide) ?_
          refine R_cV2I (q := 37) (ci := 7) (C := C_X7_turnsBy) rfl rfl rfl rfl rfl ⟨_, _, _, rfl, ⟨rfl, by omega, by rw [sh_mr]; exact iU, by omega⟩⟩ rfl rfl (by omega) (fun x M' hc => ?_)
          replace hc := hc _ _ _ rfl
          obtain ⟨hx, hc⟩ := hc
          rw [mr_mr] at hc
          simp only [sh_mr, show (200 : Int).toNat = N200 from N200_eq.symm] at hc
          subst hc
          refine R_istore_n (q := 38) (i := 3) rfl rfl rfl rfl ?_
          refine R_aload_n (q := 39) (i := 0) rfl rfl rfl rfl ?_
          refine R_getR (q := 42) rfl rfl rfl rfl rfl (by omega) ?_
          refine R_iload_n (q := 43) (i := 1) rfl rfl rfl rfl ?_
          refine R_bipush (q := 45) rfl rfl (by decide) ?_
          refine R_iadd (q := 46) rfl rfl ?_
          refine R_iald (q := 47) (v := tnN N200 (us (tau M) 0 k) 9) rfl rfl rfl (by omega) (by omega) (by first | exact rd12 (by omega) | exact rdmr (by omega)) ?_
          refine R_aload_n (q := 48) (i := 0) rfl rfl rfl rfl ?_
          refine R_getR (q := 51) rfl rfl rfl rfl rfl (by omega) ?_
          refine R_bipush (q := 53) rfl rfl (by decide) ?_
          refine R_iald (q := 54) (v := tau M 9) rfl rfl rfl (by omega) (by omega) e53 ?_
          refine R_icmp_ne (q := 57) (tgt := 59) rfl rfl (by decide) (by omega) (by omega) (fun h54 => ?_) (fun h54 => ?_)
          · refine R_iinc (q := 62) rfl rfl rfl rfl ?_
            refine R_goto (q := 65) (tgt := 6) rfl rfl (by decide) ?_
            exact ih (k + 1) _ _ (by omega) (by omega) oU e
          · omega
  have L9 := L1 201 0 (sh 4634 (M 12)) none (by omega) rfl Out_self rfl
  rw [mr_tau] at L9
  refine R_sipush (q := 3) rfl rfl (by decide) ?_
  refine R_istore_n (q := 4) (i := 1) rfl rfl rfl rfl ?_
  refine R_iconst (q := 5) rfl rfl ?_
  refine R_istore_n (q := 6) (i := 2) rfl rfl rfl rfl ?_
  exact L9
set_option maxRecDepth 100000 in
theorem mt_X7_leastSmall : MtOK yX7_leastSmall cX7_leastSmall 4 (some .int) 8 C_X7_leastSmall := by
  refine mt_of sx_X7_leastSmall (by decide +kernel) (Or.inl ⟨rfl, rfl, rfl⟩) (by decide +kernel) fdX7_ok kLX7_ok kIX7_ok sgX7_ok ntX7_ok
    (all_cons (clokV mt_X7_copies rfl (GT_at 604 (by decide +kernel) (by decide +kernel)) (GT_at 44 (by decide +kernel) (by decide +kernel)) (GT_at 607 (by decide +kernel) (by decide +kernel)) (by decide +kernel) (by decide) (GT_at 606 (by decide +kernel) (by decide +kernel)) (GT_at 12 (by decide +kernel) (by decide +kernel)) rfl rfl) (all_cons (clokV mt_X7_turnsBy rfl (GT_at 717 (by decide +kernel) (by decide +kernel)) (GT_at 44 (by decide +kernel) (by decide +kernel)) (GT_at 720 (by decide +kernel) (by decide +kernel)) (by decide +kernel) (by decide) (GT_at 719 (by decide +kernel) (by decide +kernel)) (GT_at 26 (by decide +kernel) (by decide +kernel)) rfl rfl) (all_nil))) ?_ ?_
  · rintro as M - ⟨o, rfl, hp⟩
    exact Nat.le_of_ble_eq_true rfl
  · rintro L scr as M - ⟨o, rfl, hp⟩
    exact Runs.mono (fun x M' h _ e => by cases e; exact h) (ok_X7_leastSmall L scr o M hp)
