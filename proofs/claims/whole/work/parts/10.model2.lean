theorem mP_bd (f : Int → Int) (t : Int) : ∀ n, n < 6 → 0 ≤ mP f t n ∧ mP f t n < p2 (n : Int)
  | 0, _ => by show 0 ≤ (0 : Int) ∧ (0 : Int) < 1; omega
  | 1, _ => by
    have h0 := ds_01 f t 0
    show 0 ≤ 0 + ds f t 0 * 1 ∧ 0 + ds f t 0 * 1 < 2
    omega
  | 2, _ => by
    have h0 := ds_01 f t 0
    have h1 := ds_01 f t 1
    show 0 ≤ 0 + ds f t 0 * 1 + ds f t 1 * 2 ∧ 0 + ds f t 0 * 1 + ds f t 1 * 2 < 4
    omega
  | 3, _ => by
    have h0 := ds_01 f t 0
    have h1 := ds_01 f t 1
    have h2 := ds_01 f t 2
    show 0 ≤ 0 + ds f t 0 * 1 + ds f t 1 * 2 + ds f t 2 * 4 ∧ 0 + ds f t 0 * 1 + ds f t 1 * 2 + ds f t 2 * 4 < 8
    omega
  | 4, _ => by
    have h0 := ds_01 f t 0
    have h1 := ds_01 f t 1
    have h2 := ds_01 f t 2
    have h3 := ds_01 f t 3
    show 0 ≤ 0 + ds f t 0 * 1 + ds f t 1 * 2 + ds f t 2 * 4 + ds f t 3 * 8 ∧ 0 + ds f t 0 * 1 + ds f t 1 * 2 + ds f t 2 * 4 + ds f t 3 * 8 < 16
    omega
  | 5, _ => by
    have h0 := ds_01 f t 0
    have h1 := ds_01 f t 1
    have h2 := ds_01 f t 2
    have h3 := ds_01 f t 3
    have h4 := ds_01 f t 4
    show 0 ≤ 0 + ds f t 0 * 1 + ds f t 1 * 2 + ds f t 2 * 4 + ds f t 3 * 8 + ds f t 4 * 16 ∧ 0 + ds f t 0 * 1 + ds f t 1 * 2 + ds f t 2 * 4 + ds f t 3 * 8 + ds f t 4 * 16 < 32
    omega
  | n + 6, h => absurd h (by omega)
theorem mP_6 (f : Int → Int) (t : Int) : mP f t 6 = msk f t := by
  show 0 + ds f t 0 * 1 + ds f t 1 * 2 + ds f t 2 * 4 + ds f t 3 * 8 + ds f t 4 * 16 + ds f t 5 * 32 = _
  unfold msk
  omega
theorem dP_6 (f : Int → Int) (t : Int) : dbt f t = if msk f t = 0 then 0 else dP f t 6 := rfl
theorem rmP_0 {f : Int → Int} {d p : Int} : us f (27 + 4 * d) (f (27 + 4 * d) - 1) = rmP f d p p := by
  funext j
  unfold us rmP
  by_cases h : j = 27 + 4 * d
  · subst h; simp
  · rw [if_neg h, if_neg h, if_neg (by omega)]
theorem rmP_s {f : Int → Int} {d p k : Int} (hd : 0 ≤ d ∧ d < 3) (h1 : 0 ≤ p) (h2 : p ≤ k) : us (rmP f d p k) (38 + 16 * d + k) (f (39 + 16 * d + k)) = rmP f d p (k + 1) := by
  funext j
  unfold us rmP
  by_cases e : j = 38 + 16 * d + k
  · subst e
    rw [if_pos rfl, if_neg (by omega), if_pos (by omega)]
    congr 1
    omega
  · rw [if_neg e]
    by_cases e1 : j = 27 + 4 * d
    · rw [if_pos e1, if_pos e1]
    · rw [if_neg e1, if_neg e1]
      by_cases e2 : 38 + 16 * d + p ≤ j ∧ j < 38 + 16 * d + k
      · rw [if_pos e2, if_pos (by omega)]
      · rw [if_neg e2, if_neg (by omega)]
theorem rmP_e {f : Int → Int} {d p : Int} : rmP f d p (f (27 + 4 * d) - 1) = rmv f d p := by
  funext j
  unfold rmv rmP
  by_cases e1 : j = 27 + 4 * d
  · rw [if_pos e1, if_pos e1]
  · rw [if_neg e1, if_neg e1]
    by_cases e2 : 38 + 16 * d + p ≤ j ∧ j < 38 + 16 * d + (f (27 + 4 * d) - 1)
    · rw [if_pos e2, if_pos (by omega)]
    · rw [if_neg e2, if_neg (by omega)]
theorem rmP_m {f : Int → Int} {d p k : Int} : rmP f d p k (27 + 4 * d) = f (27 + 4 * d) - 1 := if_pos rfl
theorem rmP_q {f : Int → Int} {d p k : Int} (hd : 0 ≤ d ∧ d < 3) (h1 : 0 ≤ k) : rmP f d p k (39 + 16 * d + k) = f (39 + 16 * d + k) := by
  unfold rmP
  rw [if_neg (by omega), if_neg (by omega)]
abbrev C_X7_disagreeing : Ct := (3, true, fun as M => ∃ (o : Nat) (b : Int) (t : Int), as = [wR o, wI b, wI t] ∧ (o = 11 ∧ (0 ≤ b ∧ b ≤ 4634) ∧ (0 ≤ t ∧ t < 64) ∧ Bd (sh b (M 12))), fun as M x M' => ∀ (o : Nat) (b : Int) (t : Int), as = [wR o, wI b, wI t] → ((msk (sh b (M 12)) t) = x ∧ (M) = M'))
def sx_X7_disagreeing : Sx := (tb_X7_disagreeing, fdX7, kLX7, kIX7, sgX7, ntX7, [(45, (7, C_X7_differs)), (49, (9, C_X7_flag))], 1)
set_option maxRecDepth 100000 in
set_option maxHeartbeats 1000000 in
theorem ok_X7_disagreeing (L : Nat) (scr : Int → Int) (o : Nat) (b : Int) (t : Int) (M : Mem) (hp : o = 11 ∧ (0 ≤ b ∧ b ≤ 4634) ∧ (0 ≤ t ∧ t < 64) ∧ Bd (sh b (M 12))) : Runs sx_X7_disagreeing L (xcF scr) (fun x M' => (msk (sh b (M 12)) t) = x ∧ (M) = M') 0 [wR o, wI b, wI t, none, none] [] M := by
  obtain ⟨rfl, h1, h2, h3⟩ := hp
  obtain ⟨c0, c1, c2, -⟩ := h3.2.2.2 t h2.1 h2.2
  have c4 := h3.1.2.2.2.2.1
  have L1 : ∀ (n i : Nat), i + n = 6 → Runs sx_X7_disagreeing L (xcF scr) (fun x M' => (msk (sh b (M 12)) t) = x ∧ M = M') 5 [wR 11, wI b, wI t, wI (mP (sh b (M 12)) t i), wI (i : Int)] [] M := by
    intro n
    induction n with
    | zero =>
      intro i hi
      have hi : i = 6 := by omega
      subst hi
      refine R_iload (q := 7) rfl rfl rfl ?_
      refine R_bipush (q := 9) rfl rfl (by decide) ?_
      refine R_icmp_ge (q := 12) (tgt := 51) rfl rfl (by decide) (by omega) (by omega) (fun h9 => ?_) (fun h9 => ?_)
      · refine R_iload_n (q := 52) (i := 3) rfl rfl rfl rfl ?_
        refine R_ret rfl (Or.inl rfl) ?_
        exact ⟨(mP_6 _ _).symm, rfl⟩
      · omega
    | succ n ih =>
      intro i hi
      have hb := mP_bd (sh b (M 12)) t i (by omega)
      have hk : 0 ≤ (i : Int) ∧ (i : Int) < 6 := by omega
      have hdf := df_bd (f := (sh b (M 12))) (t := t) (k := (i : Int)) c1.1 c2.1
      refine R_iload (q := 7) rfl rfl rfl ?_
      refine R_bipush (q := 9) rfl rfl (by decide) ?_
      refine R_icmp_ge (q := 12) (tgt := 51) rfl rfl (by decide) (by omega) (by omega) (fun h9 => ?_) (fun h9 => ?_)
      · omega
      · refine R_iload_n (q := 13) (i := 3) rfl rfl rfl rfl ?_
        refine R_aload_n (q := 14) (i := 0) rfl rfl rfl rfl ?_
        refine R_iload_n (q := 15) (i := 1) rfl rfl rfl rfl ?_
        refine R_iload_n (q := 16) (i := 2) rfl rfl rfl rfl ?_
        refine R_iload (q := 18) rfl rfl rfl ?_
        refine R_cV3I (q := 21) (ci := 7) (C := C_X7_differs) rfl rfl rfl rfl rfl ⟨_, _, _, _, rfl, ⟨rfl, h1, h2, hk, c1, c2⟩⟩ rfl rfl (by omega) (fun x M' hc => ?_)
        replace hc := hc _ _ _ _ rfl
        try simp only [sh_mr, mr_mr] at hc
        obtain ⟨rfl, rfl⟩ := hc
        refine R_aload_n (q := 22) (i := 0) rfl rfl rfl rfl ?_
        refine R_getR (q := 25) rfl rfl rfl rfl rfl (by omega) ?_
        refine R_iload_n (q := 26) (i := 1) rfl rfl rfl rfl ?_
        refine R_iconst (q := 27) rfl rfl ?_
        refine R_iadd (q := 28) rfl rfl ?_
        refine R_iald (q := 29) (v := sh b (M 12) 4) rfl rfl rfl (by omega) (by omega) (by first | exact rd12 (by omega) | exact rdmr (by omega)) ?_
        refine R_icmp_le (q := 32) (tgt := 36) rfl rfl (by decide) (by omega) (by omega) (fun h29 => ?_) (fun h29 => ?_)
        · have e : xior (mP (sh b (M 12)) t i) (xishl 0 (i : Int)) = mP (sh b (M 12)) t (i + 1) := by
            rw [ior_shl hk hb (by omega)]
            show _ = mP (sh b (M 12)) t i + ds (sh b (M 12)) t (i : Int) * p2 (i : Int)
            unfold ds
            rw [bt_f (by omega)]
          refine R_iconst (q := 37) rfl rfl ?_
          refine R_cS1I (q := 40) (ci := 9) (C := C_X7_flag) rfl rfl rfl rfl rfl ⟨_, rfl, (by first | trivial | assumption | omega)⟩ rfl rfl (fun x M' hc => ?_)
          replace hc := hc _ rfl
          try simp only [sh_mr, mr_mr] at hc
          obtain ⟨rfl, rfl⟩ := hc
          refine R_iload (q := 42) rfl rfl rfl ?_
          refine R_ishl (q := 43) rfl rfl ?_
          refine R_ior (q := 44) rfl rfl ?_
          refine R_istore_n (q := 45) (i := 3) rfl rfl rfl rfl ?_
          refine R_iinc (q := 48) rfl rfl rfl rfl ?_
          refine R_goto (q := 51) (tgt := 5) rfl rfl (by decide) ?_
          rw [e]
          exact ih (i + 1) (by omega)
        · have e : xior (mP (sh b (M 12)) t i) (xishl 1 (i : Int)) = mP (sh b (M 12)) t (i + 1) := by
            rw [ior_shl hk hb (by omega)]
            show _ = mP (sh b (M 12)) t i + ds (sh b (M 12)) t (i : Int) * p2 (i : Int)
            unfold ds
            rw [bt_t (by omega)]
          refine R_iconst (q := 33) rfl rfl ?_
          refine R_goto (q := 36) (tgt := 37) rfl rfl (by decide) ?_
          refine R_cS1I (q := 40) (ci := 9) (C := C_X7_flag) rfl rfl rfl rfl rfl ⟨_, rfl, (by first | trivial | assumption | omega)⟩ rfl rfl (fun x M' hc => ?_)
          replace hc := hc _ rfl
          try simp only [sh_mr, mr_mr] at hc
          obtain ⟨rfl, rfl⟩ := hc
          refine R_iload (q := 42) rfl rfl rfl ?_
          refine R_ishl (q := 43) rfl rfl ?_
          refine R_ior (q := 44) rfl rfl ?_
          refine R_istore_n (q := 45) (i := 3) rfl rfl rfl rfl ?_
          refine R_iinc (q := 48) rfl rfl rfl rfl ?_
          refine R_goto (q := 51) (tgt := 5) rfl rfl (by decide) ?_
          rw [e]
          exact ih (i + 1) (by omega)
  refine R_iconst (q := 1) rfl rfl ?_
  refine R_istore_n (q := 2) (i := 3) rfl rfl rfl rfl ?_
  refine R_iconst (q := 3) rfl rfl ?_
  refine R_istore (q := 5) rfl rfl rfl ?_
  exact L1 6 0 rfl
set_option maxRecDepth 100000 in
theorem mt_X7_disagreeing : MtOK yX7_disagreeing cX7_disagreeing 5 (some .int) 3 C_X7_disagreeing := by
  refine mt_of sx_X7_disagreeing (by decide +kernel) (Or.inl ⟨rfl, rfl, rfl⟩) (by decide +kernel) fdX7_ok kLX7_ok kIX7_ok sgX7_ok ntX7_ok
    (all_cons (clokV mt_X7_differs rfl (GT_at 692 (by decide +kernel) (by decide +kernel)) (GT_at 44 (by decide +kernel) (by decide +kernel)) (GT_at 695 (by decide +kernel) (by decide +kernel)) (by decide +kernel) (by decide) (GT_at 694 (by decide +kernel) (by decide +kernel)) (GT_at 22 (by decide +kernel) (by decide +kernel)) rfl rfl) (all_cons (clokS mt_X7_flag (GT_at 645 (by decide +kernel) (by decide +kernel)) (GT_at 44 (by decide +kernel) (by decide +kernel)) (GT_at 647 (by decide +kernel) (by decide +kernel)) (by decide +kernel) (by decide) (GT_at 646 (by decide +kernel) (by decide +kernel))) (all_nil))) ?_ ?_
  · rintro as M - ⟨o, b, t, rfl, hp⟩
    exact Nat.le_of_ble_eq_true rfl
  · rintro L scr as M - ⟨o, b, t, rfl, hp⟩
    exact Runs.mono (fun x M' h _ _ _ e => by cases e; exact h) (ok_X7_disagreeing L scr o b t M hp)
abbrev C_X7_doubt : Ct := (3, true, fun as M => ∃ (o : Nat) (b : Int) (t : Int), as = [wR o, wI b, wI t] ∧ (o = 11 ∧ (0 ≤ b ∧ b ≤ 4634) ∧ (0 ≤ t ∧ t < 64) ∧ Bd (sh b (M 12))), fun as M x M' => ∀ (o : Nat) (b : Int) (t : Int), as = [wR o, wI b, wI t] → ((dbt (sh b (M 12)) t) = x ∧ (M) = M'))
def sx_X7_doubt : Sx := (tb_X7_doubt, fdX7, kLX7, kIX7, sgX7, ntX7, [(53, (7, C_X7_disagreeing)), (39, (9, C_X7_trunkAt)), (45, (7, C_X7_differs))], 1)
set_option maxRecDepth 100000 in
set_option maxHeartbeats 1000000 in
theorem ok_X7_doubt (L : Nat) (scr : Int → Int) (o : Nat) (b : Int) (t : Int) (M : Mem) (hp : o = 11 ∧ (0 ≤ b ∧ b ≤ 4634) ∧ (0 ≤ t ∧ t < 64) ∧ Bd (sh b (M 12))) : Runs sx_X7_doubt L (xcF scr) (fun x M' => (dbt (sh b (M 12)) t) = x ∧ (M) = M') 0 [wR o, wI b, wI t, none, none, none] [] M := by
  obtain ⟨rfl, h1, h2, h3⟩ := hp
  obtain ⟨c0, c1, c2, -⟩ := h3.2.2.2 t h2.1 h2.2
  have hm := msk_bd (sh b (M 12)) t
  have L1 : ∀ (n i : Nat), i + n = 6 → Runs sx_X7_doubt L (xcF scr) (fun x M' => (dbt (sh b (M 12)) t) = x ∧ M = M') 35 [wR 11, wI b, wI t, wI (msk (sh b (M 12)) t), wI (dP (sh b (M 12)) t i), wI (i : Int)] [] M := by
    intro n
    induction n with
    | zero =>
      intro i hi
      have hi : i = 6 := by omega
      subst hi
      refine R_iload (q := 37) rfl rfl rfl ?_
      refine R_bipush (q := 39) rfl rfl (by decide) ?_
      refine R_icmp_ge (q := 42) (tgt := 81) rfl rfl (by decide) (by omega) (by omega) (fun h39 => ?_) (fun h39 => ?_)
      · refine R_iload_n (q := 82) (i := 3) rfl rfl rfl rfl ?_
        refine R_if_ne (q := 85) (tgt := 89) rfl rfl (by decide) (by omega) (fun h82 => ?_) (fun h82 => ?_)
        · have e : dbt (sh b (M 12)) t = dP (sh b (M 12)) t 6 := if_neg h82
          refine R_iload (q := 91) rfl rfl rfl ?_
          refine R_ret rfl (Or.inl rfl) ?_
          exact ⟨e, rfl⟩
        · have e : dbt (sh b (M 12)) t = 0 := if_pos (by omega)
          refine R_iconst (q := 86) rfl rfl ?_
          refine R_goto (q := 89) (tgt := 91) rfl rfl (by decide) ?_
          refine R_ret rfl (Or.inl rfl) ?_
          exact ⟨e, rfl⟩
      · omega
    | succ n ih =>
      intro i hi
      have hk : 0 ≤ (i : Int) ∧ (i : Int) < 6 := by omega
      refine R_iload (q := 37) rfl rfl rfl ?_
      refine R_bipush (q := 39) rfl rfl (by decide) ?_
      refine R_icmp_ge (q := 42) (tgt := 81) rfl rfl (by decide) (by omega) (by omega) (fun h39 => ?_) (fun h39 => ?_)
      · omega
      · refine R_iload (q := 44) rfl rfl rfl ?_
        refine R_iload_n (q := 45) (i := 3) rfl rfl rfl rfl ?_
        refine R_iload (q := 47) rfl rfl rfl ?_
        refine R_ishr (q := 48) rfl rfl ?_
        refine R_iconst (q := 49) rfl rfl ?_
        refine R_iand (q := 50) rfl rfl ?_
        refine R_aload_n (q := 51) (i := 0) rfl rfl rfl rfl ?_
        refine R_iload_n (q := 52) (i := 1) rfl rfl rfl rfl ?_
        refine R_iload_n (q := 53) (i := 2) rfl rfl rfl rfl ?_
        refine R_iload (q := 55) rfl rfl rfl ?_
        refine R_cV3I (q := 58) (ci := 7) (C := C_X7_differs) rfl rfl rfl rfl rfl ⟨_, _, _, _, rfl, ⟨rfl, h1, h2, hk, c1, c2⟩⟩ rfl rfl (by omega) (fun x M' hc => ?_)
        replace hc := hc _ _ _ _ rfl
        try simp only [sh_mr, mr_mr] at hc
        obtain ⟨rfl, rfl⟩ := hc
        refine R_imul (q := 59) rfl rfl ?_
        refine R_aload_n (q := 60) (i := 0) rfl rfl rfl rfl ?_
        refine R_getR (q := 63) rfl rfl rfl rfl rfl (by omega) ?_
        refine R_iload_n (q := 64) (i := 1) rfl rfl rfl rfl ?_
        refine R_bipush (q := 66) rfl rfl (by decide) ?_
        refine R_iadd (q := 67) rfl rfl ?_
        refine R_iload (q := 69) rfl rfl rfl ?_
        refine R_iadd (q := 70) rfl rfl ?_
        refine R_iald (q := 71) (v := sh b (M 12) (15 + (i : Int))) rfl rfl rfl (by omega) (by omega) (by first | exact rd12 (by omega) | exact rdmr (by omega)) ?_
        refine R_imul (q := 72) rfl rfl ?_
        refine R_iadd (q := 73) rfl rfl ?_
        refine R_istore (q := 75) rfl rfl rfl ?_
        refine R_iinc (q := 78) rfl rfl rfl rfl ?_
        refine R_goto (q := 81) (tgt := 35) rfl rfl (by decide) ?_
        have e : dP (sh b (M 12)) t i + xiand (xishr (msk (sh b (M 12)) t) (i : Int)) 1 * df (sh b (M 12)) t (i : Int) * (sh b (M 12)) (15 + (i : Int)) = dP (sh b (M 12)) t (i + 1) := by
          rw [shr_and hk hm, msk_bit _ _ hk]
          rfl
        rw [e]
        exact ih (i + 1) (by omega)
  refine R_aload_n (q := 1) (i := 0) rfl rfl rfl rfl ?_
  refine R_iload_n (q := 2) (i := 1) rfl rfl rfl rfl ?_
  refine R_iload_n (q := 3) (i := 2) rfl rfl rfl rfl ?_
  refine R_cV2I (q := 6) (ci := 7) (C := C_X7_disagreeing) rfl rfl rfl rfl rfl ⟨_, _, _, rfl, ⟨rfl, h1, h2, h3⟩⟩ rfl rfl (by omega) (fun x M' hc => ?_)
  replace hc := hc _ _ _ rfl
  try simp only [sh_mr, mr_mr] at hc
  obtain ⟨rfl, rfl⟩ := hc
  refine R_istore_n (q := 7) (i := 3) rfl rfl rfl rfl ?_
  refine R_bipush (q := 9) rfl rfl (by decide) ?_
  refine R_aload_n (q := 10) (i := 0) rfl rfl rfl rfl ?_
  refine R_getR (q := 13) rfl rfl rfl rfl rfl (by omega) ?_
  refine R_iload_n (q := 14) (i := 1) rfl rfl rfl rfl ?_
  refine R_bipush (q := 16) rfl rfl (by decide) ?_
  refine R_iadd (q := 17) rfl rfl ?_
  refine R_aload_n (q := 18) (i := 0) rfl rfl rfl rfl ?_
  refine R_getR (q := 21) rfl rfl rfl rfl rfl (by omega) ?_
  refine R_iload_n (q := 22) (i := 1) rfl rfl rfl rfl ?_
  refine R_iload_n (q := 23) (i := 2) rfl rfl rfl rfl ?_
  refine R_cS2I (q := 26) (ci := 9) (C := C_X7_trunkAt) rfl rfl rfl rfl rfl ⟨_, _, rfl, (by first | trivial | assumption | omega)⟩ rfl rfl (fun x M' hc => ?_)
  replace hc := hc _ _ rfl
  try simp only [sh_mr, mr_mr] at hc
  obtain ⟨rfl, rfl⟩ := hc
  refine R_iald (q := 27) (v := sh b (M 12) (86 + 9 * t)) rfl rfl rfl (by omega) (by omega) (by first | exact rd12 (by omega) | exact rdmr (by omega)) ?_
  refine R_iadd (q := 28) rfl rfl ?_
  refine R_iald (q := 29) (v := sh b (M 12) (21 + sh b (M 12) (86 + 9 * t))) rfl rfl rfl (by omega) (by omega) (by first | exact rd12 (by omega) | exact rdmr (by omega)) ?_
  refine R_isub (q := 30) rfl rfl ?_
  refine R_istore (q := 32) rfl rfl rfl ?_
  refine R_iconst (q := 33) rfl rfl ?_
  refine R_istore (q := 35) rfl rfl rfl ?_
  exact L1 6 0 rfl
set_option maxRecDepth 100000 in
theorem mt_X7_doubt : MtOK yX7_doubt cX7_doubt 6 (some .int) 4 C_X7_doubt := by
  refine mt_of sx_X7_doubt (by decide +kernel) (Or.inl ⟨rfl, rfl, rfl⟩) (by decide +kernel) fdX7_ok kLX7_ok kIX7_ok sgX7_ok ntX7_ok
    (all_cons (clokV mt_X7_disagreeing rfl (GT_at 688 (by decide +kernel) (by decide +kernel)) (GT_at 44 (by decide +kernel) (by decide +kernel)) (GT_at 691 (by decide +kernel) (by decide +kernel)) (by decide +kernel) (by decide) (GT_at 690 (by decide +kernel) (by decide +kernel)) (GT_at 21 (by decide +kernel) (by decide +kernel)) rfl rfl) (all_cons (clokS mt_X7_trunkAt (GT_at 659 (by decide +kernel) (by decide +kernel)) (GT_at 44 (by decide +kernel) (by decide +kernel)) (GT_at 661 (by decide +kernel) (by decide +kernel)) (by decide +kernel) (by decide) (GT_at 660 (by decide +kernel) (by decide +kernel))) (all_cons (clokV mt_X7_differs rfl (GT_at 692 (by decide +kernel) (by decide +kernel)) (GT_at 44 (by decide +kernel) (by decide +kernel)) (GT_at 695 (by decide +kernel) (by decide +kernel)) (by decide +kernel) (by decide) (GT_at 694 (by decide +kernel) (by decide +kernel)) (GT_at 22 (by decide +kernel) (by decide +kernel)) rfl rfl) (all_nil)))) ?_ ?_
  · rintro as M - ⟨o, b, t, rfl, hp⟩
    exact Nat.le_of_ble_eq_true rfl
  · rintro L scr as M - ⟨o, b, t, rfl, hp⟩
    exact Runs.mono (fun x M' h _ _ _ e => by cases e; exact h) (ok_X7_doubt L scr o b t M hp)
abbrev C_X7_takes : Ct := (5, false, fun as M => ∃ (o : Nat) (b : Int) (t : Int) (c : Int) (w : Int), as = [wR o, wI b, wI t, wI c, wI w] ∧ (o = 11 ∧ (0 ≤ b ∧ b ≤ 4634) ∧ (0 ≤ t ∧ t < 64) ∧ (0 ≤ w ∧ w < 86)), fun as M x M' => ∀ (o : Nat) (b : Int) (t : Int) (c : Int) (w : Int), as = [wR o, wI b, wI t, wI c, wI w] → ((mr b M (tks (sh b (M 12)) t c w)) = M'))
def sx_X7_takes : Sx := (tb_X7_takes, fdX7, kLX7, kIX7, sgX7, ntX7, [(39, (9, C_X7_trunkAt))], 0)
set_option maxRecDepth 100000 in
set_option maxHeartbeats 1000000 in
theorem ok_X7_takes (L : Nat) (scr : Int → Int) (o : Nat) (b : Int) (t : Int) (c : Int) (w : Int) (M : Mem) (hp : o = 11 ∧ (0 ≤ b ∧ b ≤ 4634) ∧ (0 ≤ t ∧ t < 64) ∧ (0 ≤ w ∧ w < 86)) : Runs sx_X7_takes L (xcF scr) (fun x M' => (mr b M (tks (sh b (M 12)) t c w)) = M') 0 [wR o, wI b, wI t, wI c, wI w] [] M := by
  obtain ⟨rfl, h1, h2, h3⟩ := hp
  refine R_aload_n (q := 1) (i := 0) rfl rfl rfl rfl ?_
  refine R_getR (q := 4) rfl rfl rfl rfl rfl (by omega) ?_
  refine R_iload_n (q := 5) (i := 1) rfl rfl rfl rfl ?_
  refine R_iload_n (q := 6) (i := 2) rfl rfl rfl rfl ?_
  refine R_cS2I (q := 9) (ci := 9) (C := C_X7_trunkAt) rfl rfl rfl rfl rfl ⟨_, _, rfl, (by first | trivial | assumption | omega)⟩ rfl rfl (fun x M' hc => ?_)
  replace hc := hc _ _ rfl
  try simp only [sh_mr, mr_mr] at hc
  obtain ⟨rfl, rfl⟩ := hc
  refine R_iconst (q := 10) rfl rfl ?_
  refine R_iadd (q := 11) rfl rfl ?_
  refine R_dup2 (q := 12) rfl rfl rfl rfl ?_
  refine R_iald (q := 13) (v := sh b (M 12) (91 + 9 * t)) rfl rfl rfl (by omega) (by omega) (by first | exact rd12 (by omega) | exact rdmr (by omega)) ?_
  refine R_iload_n (q := 14) (i := 3) rfl rfl rfl rfl ?_
  refine R_iadd (q := 15) rfl rfl ?_
  refine R_iast (q := 16) (M2 := mr b M (us (sh b (M 12)) (91 + 9 * t) ((sh b (M 12)) (91 + 9 * t) + c))) rfl rfl rfl (by omega) (by omega) (by first | exact upmr (by omega) | exact up12 (by omega)) ?_
  refine R_aload_n (q := 17) (i := 0) rfl rfl rfl rfl ?_
  refine R_getR (q := 20) rfl rfl rfl rfl rfl (by omega) ?_
  refine R_iload_n (q := 21) (i := 1) rfl rfl rfl rfl ?_
  refine R_iload (q := 23) rfl rfl rfl ?_
  refine R_iadd (q := 24) rfl rfl ?_
  refine R_dup2 (q := 25) rfl rfl rfl rfl ?_
  refine R_iald (q := 26) (v := sh b (M 12) w) rfl rfl rfl (by omega) (by omega) (Eq.trans (rdmr (by omega)) (us_n (by omega))) ?_
  refine R_iload_n (q := 27) (i := 3) rfl rfl rfl rfl ?_
  refine R_iadd (q := 28) rfl rfl ?_
  refine R_iast (q := 29) (M2 := mr b M (tks (sh b (M 12)) t c w)) rfl rfl rfl (by omega) (by omega) (upmr (by omega)) ?_
  refine R_vret rfl rfl ?_
  rfl
set_option maxRecDepth 100000 in
theorem mt_X7_takes : MtOK yX7_takes cX7_takes 5 none 1 C_X7_takes := by
  refine mt_of sx_X7_takes (by decide +kernel) (Or.inr (Or.inr ⟨rfl, rfl, rfl⟩)) (by decide +kernel) fdX7_ok kLX7_ok kIX7_ok sgX7_ok ntX7_ok
    (all_cons (clokS mt_X7_trunkAt (GT_at 659 (by decide +kernel) (by decide +kernel)) (GT_at 44 (by decide +kernel) (by decide +kernel)) (GT_at 661 (by decide +kernel) (by decide +kernel)) (by decide +kernel) (by decide) (GT_at 660 (by decide +kernel) (by decide +kernel))) (all_nil)) ?_ ?_
  · rintro as M - ⟨o, b, t, c, w, rfl, hp⟩
    exact Nat.le_of_ble_eq_true rfl
  · rintro L scr as M - ⟨o, b, t, c, w, rfl, hp⟩
    exact Runs.mono (fun x M' h _ _ _ _ _ e => by cases e; exact h) (ok_X7_takes L scr o b t c w M hp)
abbrev C_X7_removes : Ct := (4, false, fun as M => ∃ (o : Nat) (b : Int) (d : Int) (p : Int), as = [wR o, wI b, wI d, wI p] ∧ (o = 11 ∧ (0 ≤ b ∧ b ≤ 4634) ∧ (0 ≤ d ∧ d < 3) ∧ (0 ≤ p ∧ p < (sh b (M 12)) (27 + 4 * d) ∧ (sh b (M 12)) (27 + 4 * d) ≤ 16)), fun as M x M' => ∀ (o : Nat) (b : Int) (d : Int) (p : Int), as = [wR o, wI b, wI d, wI p] → ((mr b M (rmv (sh b (M 12)) d p)) = M'))
def sx_X7_removes : Sx := (tb_X7_removes, fdX7, kLX7, kIX7, sgX7, ntX7, [(20, (9, C_X7_deskAt)), (56, (9, C_X7_queueAt))], 0)
set_option maxRecDepth 100000 in
set_option maxHeartbeats 1000000 in
theorem ok_X7_removes (L : Nat) (scr : Int → Int) (o : Nat) (b : Int) (d : Int) (p : Int) (M : Mem) (hp : o = 11 ∧ (0 ≤ b ∧ b ≤ 4634) ∧ (0 ≤ d ∧ d < 3) ∧ (0 ≤ p ∧ p < (sh b (M 12)) (27 + 4 * d) ∧ (sh b (M 12)) (27 + 4 * d) ≤ 16)) : Runs sx_X7_removes L (xcF scr) (fun x M' => (mr b M (rmv (sh b (M 12)) d p)) = M') 0 [wR o, wI b, wI d, wI p, none, none] [] M := by
  obtain ⟨rfl, h1, h2, h3⟩ := hp
  have L1 : ∀ (n : Nat) (k : Int), k + n = (sh b (M 12)) (27 + 4 * d) - 1 → p ≤ k → Runs sx_X7_removes L (xcF scr) (fun x M' => (mr b M (rmv (sh b (M 12)) d p)) = M') 23 [wR 11, wI b, wI d, wI p, wI (b + 26 + 4 * d), wI k] [] (mr b M (rmP (sh b (M 12)) d p k)) := by
    intro n
    induction n with
    | zero =>
      intro k hk hk2
      refine R_iload (q := 25) rfl rfl rfl ?_
      refine R_aload_n (q := 26) (i := 0) rfl rfl rfl rfl ?_
      refine R_getR (q := 29) rfl rfl rfl rfl rfl (by omega) ?_
      refine R_iload (q := 31) rfl rfl rfl ?_
      refine R_iconst (q := 32) rfl rfl ?_
      refine R_iadd (q := 33) rfl rfl ?_
      refine R_iald (q := 34) (v := (sh b (M 12)) (27 + 4 * d) - 1) rfl rfl rfl (by omega) (by omega) (Eq.trans (rdmr (by omega)) rmP_m) ?_
      refine R_icmp_ge (q := 37) (tgt := 69) rfl rfl (by decide) (by omega) (by omega) (fun h34 => ?_) (fun h34 => ?_)
      · refine R_vret rfl rfl ?_
        rw [← rmP_e, show k = (sh b (M 12)) (27 + 4 * d) - 1 by omega]
      · omega
    | succ n ih =>
      intro k hk hk2
      refine R_iload (q := 25) rfl rfl rfl ?_
      refine R_aload_n (q := 26) (i := 0) rfl rfl rfl rfl ?_
      refine R_getR (q := 29) rfl rfl rfl rfl rfl (by omega) ?_
      refine R_iload (q := 31) rfl rfl rfl ?_
      refine R_iconst (q := 32) rfl rfl ?_
      refine R_iadd (q := 33) rfl rfl ?_
      refine R_iald (q := 34) (v := (sh b (M 12)) (27 + 4 * d) - 1) rfl rfl rfl (by omega) (by omega) (Eq.trans (rdmr (by omega)) rmP_m) ?_
      refine R_icmp_ge (q := 37) (tgt := 69) rfl rfl (by decide) (by omega) (by omega) (fun h34 => ?_) (fun h34 => ?_)
      · omega
      · refine R_aload_n (q := 38) (i := 0) rfl rfl rfl rfl ?_
        refine R_getR (q := 41) rfl rfl rfl rfl rfl (by omega) ?_
        refine R_iload_n (q := 42) (i := 1) rfl rfl rfl rfl ?_
        refine R_iload_n (q := 43) (i := 2) rfl rfl rfl rfl ?_
        refine R_iload (q := 45) rfl rfl rfl ?_
        refine R_cS3I (q := 48) (ci := 9) (C := C_X7_queueAt) rfl rfl rfl rfl rfl ⟨_, _, _, rfl, (by first | trivial | assumption | omega)⟩ rfl rfl (fun x M' hc => ?_)
        replace hc := hc _ _ _ rfl
        try simp only [sh_mr, mr_mr] at hc
        obtain ⟨rfl, rfl⟩ := hc
        refine R_aload_n (q := 49) (i := 0) rfl rfl rfl rfl ?_
        refine R_getR (q := 52) rfl rfl rfl rfl rfl (by omega) ?_
        refine R_iload_n (q := 53) (i := 1) rfl rfl rfl rfl ?_
        refine R_iload_n (q := 54) (i := 2) rfl rfl rfl rfl ?_
        refine R_iload (q := 56) rfl rfl rfl ?_
        refine R_iconst (q := 57) rfl rfl ?_
        refine R_iadd (q := 58) rfl rfl ?_
        refine R_cS3I (q := 61) (ci := 9) (C := C_X7_queueAt) rfl rfl rfl rfl rfl ⟨_, _, _, rfl, (by first | trivial | assumption | omega)⟩ rfl rfl (fun x M' hc => ?_)
        replace hc := hc _ _ _ rfl
        try simp only [sh_mr, mr_mr] at hc
        obtain ⟨rfl, rfl⟩ := hc
        refine R_iald (q := 62) (v := (sh b (M 12)) (39 + 16 * d + k)) rfl rfl rfl (by omega) (by omega) (Eq.trans (rdmr (by omega)) (rmP_q h2 (by omega))) ?_
        refine R_iast (q := 63) (M2 := mr b M (rmP (sh b (M 12)) d p (k + 1))) rfl rfl rfl (by omega) (by omega) (Eq.trans (upmr (by omega)) (congrArg (mr b M) (rmP_s h2 h3.1 hk2))) ?_
        refine R_iinc (q := 66) rfl rfl rfl rfl ?_
        refine R_goto (q := 69) (tgt := 23) rfl rfl (by decide) ?_
        exact ih (k + 1) (by omega) (by omega)
  refine R_iload_n (q := 1) (i := 1) rfl rfl rfl rfl ?_
  refine R_iload_n (q := 2) (i := 2) rfl rfl rfl rfl ?_
  refine R_cS2I (q := 5) (ci := 9) (C := C_X7_deskAt) rfl rfl rfl rfl rfl ⟨_, _, rfl, (by first | trivial | assumption | omega)⟩ rfl rfl (fun x M' hc => ?_)
  replace hc := hc _ _ rfl
  try simp only [sh_mr, mr_mr] at hc
  obtain ⟨rfl, rfl⟩ := hc
  refine R_istore (q := 7) rfl rfl rfl ?_
  refine R_aload_n (q := 8) (i := 0) rfl rfl rfl rfl ?_
  refine R_getR (q := 11) rfl rfl rfl rfl rfl (by omega) ?_
  refine R_iload (q := 13) rfl rfl rfl ?_
  refine R_iconst (q := 14) rfl rfl ?_
  refine R_iadd (q := 15) rfl rfl ?_
  refine R_dup2 (q := 16) rfl rfl rfl rfl ?_
  refine R_iald (q := 17) (v := sh b (M 12) (27 + 4 * d)) rfl rfl rfl (by omega) (by omega) (by first | exact rd12 (by omega) | exact rdmr (by omega)) ?_
  refine R_iconst (q := 18) rfl rfl ?_
  refine R_isub (q := 19) rfl rfl ?_
  refine R_iast (q := 20) (M2 := mr b M (rmP (sh b (M 12)) d p p)) rfl rfl rfl (by omega) (by omega) (Eq.trans (up12 (by omega)) (congrArg (mr b M) rmP_0)) ?_
  refine R_iload_n (q := 21) (i := 3) rfl rfl rfl rfl ?_
  refine R_istore (q := 23) rfl rfl rfl ?_
  exact L1 ((sh b (M 12)) (27 + 4 * d) - 1 - p).toNat p (by omega) (by omega)
set_option maxRecDepth 100000 in
theorem mt_X7_removes : MtOK yX7_removes cX7_removes 6 none 1 C_X7_removes := by
  refine mt_of sx_X7_removes (by decide +kernel) (Or.inr (Or.inr ⟨rfl, rfl, rfl⟩)) (by decide +kernel) fdX7_ok kLX7_ok kIX7_ok sgX7_ok ntX7_ok
    (all_cons (clokS mt_X7_deskAt (GT_at 555 (by decide +kernel) (by decide +kernel)) (GT_at 44 (by decide +kernel) (by decide +kernel)) (GT_at 557 (by decide +kernel) (by decide +kernel)) (by decide +kernel) (by decide) (GT_at 556 (by decide +kernel) (by decide +kernel))) (all_cons (clokS mt_X7_queueAt (GT_at 666 (by decide +kernel) (by decide +kernel)) (GT_at 44 (by decide +kernel) (by decide +kernel)) (GT_at 668 (by decide +kernel) (by decide +kernel)) (by decide +kernel) (by decide) (GT_at 667 (by decide +kernel) (by decide +kernel))) (all_nil))) ?_ ?_
  · rintro as M - ⟨o, b, d, p, rfl, hp⟩
    exact Nat.le_of_ble_eq_true rfl
  · rintro L scr as M - ⟨o, b, d, p, rfl, hp⟩
    exact Runs.mono (fun x M' h _ _ _ _ e => by cases e; exact h) (ok_X7_removes L scr o b d p M hp)
abbrev C_X7_joins : Ct := (4, false, fun as M => ∃ (o : Nat) (b : Int) (d : Int) (t : Int), as = [wR o, wI b, wI d, wI t] ∧ (o = 11 ∧ (0 ≤ b ∧ b ≤ 4634) ∧ (0 ≤ d ∧ d < 3) ∧ (0 ≤ (sh b (M 12)) (27 + 4 * d) ∧ (sh b (M 12)) (27 + 4 * d) < 16)), fun as M x M' => ∀ (o : Nat) (b : Int) (d : Int) (t : Int), as = [wR o, wI b, wI d, wI t] → ((mr b M (jn (sh b (M 12)) d t)) = M'))
def sx_X7_joins : Sx := (tb_X7_joins, fdX7, kLX7, kIX7, sgX7, ntX7, [(20, (9, C_X7_deskAt)), (56, (9, C_X7_queueAt))], 0)
set_option maxRecDepth 100000 in
set_option maxHeartbeats 1000000 in
theorem ok_X7_joins (L : Nat) (scr : Int → Int) (o : Nat) (b : Int) (d : Int) (t : Int) (M : Mem) (hp : o = 11 ∧ (0 ≤ b ∧ b ≤ 4634) ∧ (0 ≤ d ∧ d < 3) ∧ (0 ≤ (sh b (M 12)) (27 + 4 * d) ∧ (sh b (M 12)) (27 + 4 * d) < 16)) : Runs sx_X7_joins L (xcF scr) (fun x M' => (mr b M (jn (sh b (M 12)) d t)) = M') 0 [wR o, wI b, wI d, wI t] [] M := by
  obtain ⟨rfl, h1, h2, h3⟩ := hp
  refine R_aload_n (q := 1) (i := 0) rfl rfl rfl rfl ?_
  refine R_getR (q := 4) rfl rfl rfl rfl rfl (by omega) ?_
  refine R_iload_n (q := 5) (i := 1) rfl rfl rfl rfl ?_
  refine R_iload_n (q := 6) (i := 2) rfl rfl rfl rfl ?_
  refine R_aload_n (q := 7) (i := 0) rfl rfl rfl rfl ?_
  refine R_getR (q := 10) rfl rfl rfl rfl rfl (by omega) ?_
  refine R_iload_n (q := 11) (i := 1) rfl rfl rfl rfl ?_
  refine R_iload_n (q := 12) (i := 2) rfl rfl rfl rfl ?_
  refine R_cS2I (q := 15) (ci := 9) (C := C_X7_deskAt) rfl rfl rfl rfl rfl ⟨_, _, rfl, (by first | trivial | assumption | omega)⟩ rfl rfl (fun x M' hc => ?_)
  replace hc := hc _ _ rfl
  try simp only [sh_mr, mr_mr] at hc
  obtain ⟨rfl, rfl⟩ := hc
  refine R_iconst (q := 16) rfl rfl ?_
  refine R_iadd (q := 17) rfl rfl ?_
  refine R_iald (q := 18) (v := sh b (M 12) (27 + 4 * d)) rfl rfl rfl (by omega) (by omega) (by first | exact rd12 (by omega) | exact rdmr (by omega)) ?_
  refine R_cS3I (q := 21) (ci := 9) (C := C_X7_queueAt) rfl rfl rfl rfl rfl ⟨_, _, _, rfl, (by first | trivial | assumption | omega)⟩ rfl rfl (fun x M' hc => ?_)
  replace hc := hc _ _ _ rfl
  try simp only [sh_mr, mr_mr] at hc
  obtain ⟨rfl, rfl⟩ := hc
  refine R_iload_n (q := 22) (i := 3) rfl rfl rfl rfl ?_
  refine R_iast (q := 23) (M2 := mr b M (us (sh b (M 12)) (38 + 16 * d + (sh b (M 12)) (27 + 4 * d)) t)) rfl rfl rfl (by omega) (by omega) (by first | exact upmr (by omega) | exact up12 (by omega)) ?_
  refine R_aload_n (q := 24) (i := 0) rfl rfl rfl rfl ?_
  refine R_getR (q := 27) rfl rfl rfl rfl rfl (by omega) ?_
  refine R_iload_n (q := 28) (i := 1) rfl rfl rfl rfl ?_
  refine R_iload_n (q := 29) (i := 2) rfl rfl rfl rfl ?_
  refine R_cS2I (q := 32) (ci := 9) (C := C_X7_deskAt) rfl rfl rfl rfl rfl ⟨_, _, rfl, (by first | trivial | assumption | omega)⟩ rfl rfl (fun x M' hc => ?_)
  replace hc := hc _ _ rfl
  try simp only [sh_mr, mr_mr] at hc
  obtain ⟨rfl, rfl⟩ := hc
  refine R_iconst (q := 33) rfl rfl ?_
  refine R_iadd (q := 34) rfl rfl ?_
  refine R_dup2 (q := 35) rfl rfl rfl rfl ?_
  refine R_iald (q := 36) (v := sh b (M 12) (27 + 4 * d)) rfl rfl rfl (by omega) (by omega) (Eq.trans (rdmr (by omega)) (us_n (by omega))) ?_
  refine R_iconst (q := 37) rfl rfl ?_
  refine R_iadd (q := 38) rfl rfl ?_
  refine R_iast (q := 39) (M2 := mr b M (jn (sh b (M 12)) d t)) rfl rfl rfl (by omega) (by omega) (upmr (by omega)) ?_
  refine R_vret rfl rfl ?_
  rfl
set_option maxRecDepth 100000 in
theorem mt_X7_joins : MtOK yX7_joins cX7_joins 4 none 1 C_X7_joins := by
  refine mt_of sx_X7_joins (by decide +kernel) (Or.inr (Or.inr ⟨rfl, rfl, rfl⟩)) (by decide +kernel) fdX7_ok kLX7_ok kIX7_ok sgX7_ok ntX7_ok
    (all_cons (clokS mt_X7_deskAt (GT_at 555 (by decide +kernel) (by decide +kernel)) (GT_at 44 (by decide +kernel) (by decide +kernel)) (GT_at 557 (by decide +kernel) (by decide +kernel)) (by decide +kernel) (by decide) (GT_at 556 (by decide +kernel) (by decide +kernel))) (all_cons (clokS mt_X7_queueAt (GT_at 666 (by decide +kernel) (by decide +kernel)) (GT_at 44 (by decide +kernel) (by decide +kernel)) (GT_at 668 (by decide +kernel) (by decide +kernel)) (by decide +kernel) (by decide) (GT_at 667 (by decide +kernel) (by decide +kernel))) (all_nil))) ?_ ?_
  · rintro as M - ⟨o, b, d, t, rfl, hp⟩
    exact Nat.le_of_ble_eq_true rfl
  · rintro L scr as M - ⟨o, b, d, t, rfl, hp⟩
    exact Runs.mono (fun x M' h _ _ _ _ e => by cases e; exact h) (ok_X7_joins L scr o b d t M hp)
abbrev C_X7_passes : Ct := (5, false, fun as M => ∃ (o : Nat) (b : Int) (d : Int) (t : Int) (w : Int), as = [wR o, wI b, wI d, wI t, wI w] ∧ (o = 11 ∧ (0 ≤ b ∧ b ≤ 4634) ∧ (0 ≤ d ∧ d < 3) ∧ (0 ≤ t ∧ t < 64) ∧ (w = 1 ∨ w = 2)), fun as M x M' => ∀ (o : Nat) (b : Int) (d : Int) (t : Int) (w : Int), as = [wR o, wI b, wI d, wI t, wI w] → ((mr b M (pss (sh b (M 12)) d t w)) = M'))
def sx_X7_passes : Sx := (tb_X7_passes, fdX7, kLX7, kIX7, sgX7, ntX7, [(39, (9, C_X7_trunkAt)), (20, (9, C_X7_deskAt))], 0)
set_option maxRecDepth 100000 in
set_option maxHeartbeats 1000000 in
theorem ok_X7_passes (L : Nat) (scr : Int → Int) (o : Nat) (b : Int) (d : Int) (t : Int) (w : Int) (M : Mem) (hp : o = 11 ∧ (0 ≤ b ∧ b ≤ 4634) ∧ (0 ≤ d ∧ d < 3) ∧ (0 ≤ t ∧ t < 64) ∧ (w = 1 ∨ w = 2)) : Runs sx_X7_passes L (xcF scr) (fun x M' => (mr b M (pss (sh b (M 12)) d t w)) = M') 0 [wR o, wI b, wI d, wI t, wI w] [] M := by
  obtain ⟨rfl, h1, h2, h3, h4⟩ := hp
  rcases h4 with rfl | rfl
  · refine R_aload_n (q := 1) (i := 0) rfl rfl rfl rfl ?_
    refine R_getR (q := 4) rfl rfl rfl rfl rfl (by omega) ?_
    refine R_iload_n (q := 5) (i := 1) rfl rfl rfl rfl ?_
    refine R_iload_n (q := 6) (i := 3) rfl rfl rfl rfl ?_
    refine R_cS2I (q := 9) (ci := 9) (C := C_X7_trunkAt) rfl rfl rfl rfl rfl ⟨_, _, rfl, (by first | trivial | assumption | omega)⟩ rfl rfl (fun x M' hc => ?_)
    replace hc := hc _ _ rfl
    try simp only [sh_mr, mr_mr] at hc
    obtain ⟨rfl, rfl⟩ := hc
    refine R_iconst (q := 10) rfl rfl ?_
    refine R_iadd (q := 11) rfl rfl ?_
    refine R_iload (q := 13) rfl rfl rfl ?_
    refine R_iast (q := 14) (M2 := mr b M (us (sh b (M 12)) (90 + 9 * t) 1)) rfl rfl rfl (by omega) (by omega) (by first | exact upmr (by omega) | exact up12 (by omega)) ?_
    refine R_aload_n (q := 15) (i := 0) rfl rfl rfl rfl ?_
    refine R_getR (q := 18) rfl rfl rfl rfl rfl (by omega) ?_
    refine R_iload_n (q := 19) (i := 1) rfl rfl rfl rfl ?_
    refine R_iload_n (q := 20) (i := 2) rfl rfl rfl rfl ?_
    refine R_cS2I (q := 23) (ci := 9) (C := C_X7_deskAt) rfl rfl rfl rfl rfl ⟨_, _, rfl, (by first | trivial | assumption | omega)⟩ rfl rfl (fun x M' hc => ?_)
    replace hc := hc _ _ rfl
    try simp only [sh_mr, mr_mr] at hc
    obtain ⟨rfl, rfl⟩ := hc
    refine R_iconst (q := 24) rfl rfl ?_
    refine R_iadd (q := 25) rfl rfl ?_
    refine R_dup2 (q := 26) rfl rfl rfl rfl ?_
    refine R_iald (q := 27) (v := sh b (M 12) (29 + 4 * d)) rfl rfl rfl (by omega) (by omega) (Eq.trans (rdmr (by omega)) (us_n (by omega))) ?_
    refine R_iconst (q := 28) rfl rfl ?_
    refine R_iadd (q := 29) rfl rfl ?_
    refine R_iast (q := 30) (M2 := mr b M (us (us (sh b (M 12)) (90 + 9 * t) 1) (29 + 4 * d) ((sh b (M 12)) (29 + 4 * d) + 1))) rfl rfl rfl (by omega) (by omega) (upmr (by omega)) ?_
    refine R_aload_n (q := 31) (i := 0) rfl rfl rfl rfl ?_
    refine R_getR (q := 34) rfl rfl rfl rfl rfl (by omega) ?_
    refine R_iload_n (q := 35) (i := 1) rfl rfl rfl rfl ?_
    refine R_iload (q := 37) rfl rfl rfl ?_
    refine R_iconst (q := 38) rfl rfl ?_
    refine R_icmp_ne (q := 41) (tgt := 46) rfl rfl (by decide) (by omega) (by omega) (fun h38 => ?_) (fun h38 => ?_)
    · exact absurd rfl h38
    · refine R_bipush (q := 43) rfl rfl (by decide) ?_
      refine R_goto (q := 46) (tgt := 48) rfl rfl (by decide) ?_
      refine R_iadd (q := 49) rfl rfl ?_
      refine R_dup2 (q := 50) rfl rfl rfl rfl ?_
      refine R_iald (q := 51) (v := sh b (M 12) 8) rfl rfl rfl (by omega) (by omega) (Eq.trans (rdmr (by omega)) (Eq.trans (us_n (by omega)) (us_n (by omega)))) ?_
      refine R_iconst (q := 52) rfl rfl ?_
      refine R_iadd (q := 53) rfl rfl ?_
      refine R_iast (q := 54) (M2 := mr b M (pss (sh b (M 12)) d t 1)) rfl rfl rfl (by omega) (by omega) (upmr (by show _ = b + 8; omega)) ?_
      refine R_vret rfl rfl ?_
      rfl
  · refine R_aload_n (q := 1) (i := 0) rfl rfl rfl rfl ?_
    refine R_getR (q := 4) rfl rfl rfl rfl rfl (by omega) ?_
    refine R_iload_n (q := 5) (i := 1) rfl rfl rfl rfl ?_
    refine R_iload_n (q := 6) (i := 3) rfl rfl rfl rfl ?_
    refine R_cS2I (q := 9) (ci := 9) (C := C_X7_trunkAt) rfl rfl rfl rfl rfl ⟨_, _, rfl, (by first | trivial | assumption | omega)⟩ rfl rfl (fun x M' hc => ?_)
    replace hc := hc _ _ rfl
    try simp only [sh_mr, mr_mr] at hc
    obtain ⟨rfl, rfl⟩ := hc
    refine R_iconst (q := 10) rfl rfl ?_
    refine R_iadd (q := 11) rfl rfl ?_
    refine R_iload (q := 13) rfl rfl rfl ?_
    refine R_iast (q := 14) (M2 := mr b M (us (sh b (M 12)) (90 + 9 * t) 2)) rfl rfl rfl (by omega) (by omega) (by first | exact upmr (by omega) | exact up12 (by omega)) ?_
    refine R_aload_n (q := 15) (i := 0) rfl rfl rfl rfl ?_
    refine R_getR (q := 18) rfl rfl rfl rfl rfl (by omega) ?_
    refine R_iload_n (q := 19) (i := 1) rfl rfl rfl rfl ?_
    refine R_iload_n (q := 20) (i := 2) rfl rfl rfl rfl ?_
    refine R_cS2I (q := 23) (ci := 9) (C := C_X7_deskAt) rfl rfl rfl rfl rfl ⟨_, _, rfl, (by first | trivial | assumption | omega)⟩ rfl rfl (fun x M' hc => ?_)
    replace hc := hc _ _ rfl
    try simp only [sh_mr, mr_mr] at hc
    obtain ⟨rfl, rfl⟩ := hc
    refine R_iconst (q := 24) rfl rfl ?_
    refine R_iadd (q := 25) rfl rfl ?_
    refine R_dup2 (q := 26) rfl rfl rfl rfl ?_
    refine R_iald (q := 27) (v := sh b (M 12) (29 + 4 * d)) rfl rfl rfl (by omega) (by omega) (Eq.trans (rdmr (by omega)) (us_n (by omega))) ?_
    refine R_iconst (q := 28) rfl rfl ?_
    refine R_iadd (q := 29) rfl rfl ?_
    refine R_iast (q := 30) (M2 := mr b M (us (us (sh b (M 12)) (90 + 9 * t) 2) (29 + 4 * d) ((sh b (M 12)) (29 + 4 * d) + 1))) rfl rfl rfl (by omega) (by omega) (upmr (by omega)) ?_
    refine R_aload_n (q := 31) (i := 0) rfl rfl rfl rfl ?_
    refine R_getR (q := 34) rfl rfl rfl rfl rfl (by omega) ?_
    refine R_iload_n (q := 35) (i := 1) rfl rfl rfl rfl ?_
    refine R_iload (q := 37) rfl rfl rfl ?_
    refine R_iconst (q := 38) rfl rfl ?_
    refine R_icmp_ne (q := 41) (tgt := 46) rfl rfl (by decide) (by omega) (by omega) (fun h38 => ?_) (fun h38 => ?_)
    · refine R_bipush (q := 48) rfl rfl (by decide) ?_
      refine R_iadd (q := 49) rfl rfl ?_
      refine R_dup2 (q := 50) rfl rfl rfl rfl ?_
      refine R_iald (q := 51) (v := sh b (M 12) 9) rfl rfl rfl (by omega) (by omega) (Eq.trans (rdmr (by omega)) (Eq.trans (us_n (by omega)) (us_n (by omega)))) ?_
      refine R_iconst (q := 52) rfl rfl ?_
      refine R_iadd (q := 53) rfl rfl ?_
      refine R_iast (q := 54) (M2 := mr b M (pss (sh b (M 12)) d t 2)) rfl rfl rfl (by omega) (by omega) (upmr (by show _ = b + 9; omega)) ?_
      refine R_vret rfl rfl ?_
      rfl
    · omega
set_option maxRecDepth 100000 in
theorem mt_X7_passes : MtOK yX7_passes cX7_passes 5 none 1 C_X7_passes := by
  refine mt_of sx_X7_passes (by decide +kernel) (Or.inr (Or.inr ⟨rfl, rfl, rfl⟩)) (by decide +kernel) fdX7_ok kLX7_ok kIX7_ok sgX7_ok ntX7_ok
    (all_cons (clokS mt_X7_trunkAt (GT_at 659 (by decide +kernel) (by decide +kernel)) (GT_at 44 (by decide +kernel) (by decide +kernel)) (GT_at 661 (by decide +kernel) (by decide +kernel)) (by decide +kernel) (by decide) (GT_at 660 (by decide +kernel) (by decide +kernel))) (all_cons (clokS mt_X7_deskAt (GT_at 555 (by decide +kernel) (by decide +kernel)) (GT_at 44 (by decide +kernel) (by decide +kernel)) (GT_at 557 (by decide +kernel) (by decide +kernel)) (by decide +kernel) (by decide) (GT_at 556 (by decide +kernel) (by decide +kernel))) (all_nil))) ?_ ?_
  · rintro as M - ⟨o, b, d, t, w, rfl, hp⟩
    exact Nat.le_of_ble_eq_true rfl
  · rintro L scr as M - ⟨o, b, d, t, w, rfl, hp⟩
    exact Runs.mono (fun x M' h _ _ _ _ _ e => by cases e; exact h) (ok_X7_passes L scr o b d t w M hp)
