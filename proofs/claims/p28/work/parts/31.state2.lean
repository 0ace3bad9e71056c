def dS (f : Int → Int) (t : Int) : Nat → Int
  | 0 => 0
  | n + 1 => dS f t n + dw f t (n : Int)
theorem dS_bd {f : Int → Int} (hB : Bd f) {t : Int} (ht : 0 ≤ t ∧ t < 64) : ∀ n : Nat, n ≤ 6 → (0 ≤ dS f t n ∧ dS f t n ≤ 81 * n) ∧ (0 ≤ mP f t n) ∧ (dS f t n = 0 ↔ mP f t n = 0)
  | 0, _ => ⟨by show 0 ≤ (0 : Int) ∧ (0 : Int) ≤ 0; omega, by show 0 ≤ (0 : Int); omega, by show (0 : Int) = 0 ↔ (0 : Int) = 0; omega⟩
  | n + 1, h => by
    obtain ⟨a, b, c⟩ := dS_bd hB ht n (by omega)
    have hk : 0 ≤ (n : Int) ∧ (n : Int) < 6 := by omega
    obtain ⟨c0, c1, c2, c3⟩ := hB.2.2.2 t ht.1 ht.2
    have w := hB.2.1 (n : Int) hk.1 hk.2
    have hdf := df_bd (f := f) (t := t) (k := (n : Int)) c1.1 c2.1
    have h4 := hB.1.2.2.2.2.1
    have d := dw_bd hB ht hk
    have hp2 : 1 ≤ p2 (n : Int) := k6 (P := fun k => 1 ≤ p2 k) hk (by decide) (by decide) (by decide) (by decide) (by decide) (by decide)
    have e1 : dS f t (n + 1) = dS f t n + dw f t (n : Int) := rfl
    have e2 : mP f t (n + 1) = mP f t n + ds f t (n : Int) * p2 (n : Int) := rfl
    have e3 : dw f t (n : Int) = ds f t (n : Int) * df f t (n : Int) * f (15 + (n : Int)) := rfl
    have e4 : ds f t (n : Int) = bt_ (f 4 < df f t (n : Int)) 1 := rfl
    by_cases e : f 4 < df f t (n : Int)
    · rw [bt_t e] at e4
      rw [e4, Int.one_mul] at e3
      have : 0 < df f t (n : Int) * f (15 + (n : Int)) := Int.mul_pos (by omega) (by omega)
      rw [e4, Int.one_mul] at e2
      rw [e1, e2]
      omega
    · rw [bt_f e] at e4
      rw [e4, Int.zero_mul, Int.zero_mul] at e3
      rw [e4, Int.zero_mul] at e2
      rw [e1, e2, e3]
      omega
theorem dS_6 {f : Int → Int} {t : Int} : dbt f t = if msk f t = 0 then 0 else dS f t 6 + 9 - f (21 + f (86 + 9 * t)) := by
  unfold dbt
  split
  · rfl
  · show _ = 0 + dw f t 0 + dw f t 1 + dw f t 2 + dw f t 3 + dw f t 4 + dw f t 5 + 9 - _
    omega
abbrev C_X4_doubtOf : Ct := (2, true, fun as M => ∃ (a : Nat) (t : Int), as = [wR a, wI t] ∧ (SI M a ∧ (0 ≤ t ∧ t < M 200 7)), fun as M x M' => ∀ (a : Nat) (t : Int), as = [wR a, wI t] → ((dbt (M 200) t) = x ∧ (M) = M'))
def sx_X4_doubtOf : Sx := (tb_X4_doubtOf, fdX4, kLX4, kIX4, sgX4, ntX4, [(65, (5, C_X5_difference))], 1)
set_option maxRecDepth 100000 in
set_option maxHeartbeats 1000000 in
theorem ok_X4_doubtOf (L : Nat) (scr : Int → Int) (a : Nat) (t : Int) (M : Mem) (hp : SI M a ∧ (0 ≤ t ∧ t < M 200 7)) : Runs sx_X4_doubtOf L (xcF scr) (fun x M' => (dbt (M 200) t) = x ∧ (M) = M') 0 [wR a, wI t, none, none, none] [] M := by
  obtain ⟨⟨hst, hr, I⟩, g1⟩ := hp
  have hb := id hst
  unfold isSt at hb
  have i7 := I.i7
  have g2 : t < 64 := by omega
  have iB := I.1
  have h4 := iB.1.2.2.2.2.1
  obtain ⟨c0, c1, c2, c3⟩ := iB.2.2.2 t g1.1 g2
  have tb := iB.2.2.1 _ c0.1 c0.2
  have L1 : ∀ (n i : Nat) (u : PV), i + n = 6 → Runs sx_X4_doubtOf L (xcF scr) (fun x M' => (dbt (M 200) t) = x ∧ M = M') 4 [wR a, wI t, wI (dS (M 200) t i), wI (i : Int), u] [] M := by
    intro n
    induction n with
    | zero =>
      intro i u hi
      have hi : i = 6 := by omega
      subst hi
      have b := dS_bd iB ⟨g1.1, g2⟩ 6 (by omega)
      rw [mP_6] at b
      refine R_iload_n (q := 5) (i := 3) rfl rfl rfl rfl ?_
      refine R_bipush (q := 7) rfl rfl (by decide) ?_
      refine R_icmp_ge (q := 10) (tgt := 50) rfl rfl (by decide) (by omega) (by omega) (fun h7 => ?_) (fun h7 => ?_)
      · refine R_iload_n (q := 51) (i := 2) rfl rfl rfl rfl ?_
        refine R_if_ne (q := 54) (tgt := 58) rfl rfl (by decide) (by omega) (fun h51 => ?_) (fun h51 => ?_)
        · refine R_iload_n (q := 59) (i := 2) rfl rfl rfl rfl ?_
          refine R_bipush (q := 61) rfl rfl (by decide) ?_
          refine R_iadd (q := 62) rfl rfl ?_
          refine R_aload_n (q := 63) (i := 0) rfl rfl rfl rfl ?_
          refine R_getR (q := 66) rfl rfl rfl (lay0 hst) rfl (by omega) ?_
          refine R_aload_n (q := 67) (i := 0) rfl rfl rfl rfl ?_
          refine R_getR (q := 70) rfl rfl rfl (lay0 hst) rfl (by omega) ?_
          refine R_getR (q := 73) rfl rfl rfl (lay_tk (tkI hst)) rfl (by omega) ?_
          refine R_iload_n (q := 74) (i := 1) rfl rfl rfl rfl ?_
          refine R_iald (q := 75) (v := M 200 (86 + 9 * t)) rfl rfl (lay_ta (tkI hst) rfl) (by omega) (by omega) (hr.co g1 g2) ?_
          refine R_iald (q := 76) (v := M 200 (21 + M 200 (86 + 9 * t))) rfl rfl (layi hst rfl) (by omega) (by omega) (hr.tr c0) ?_
          refine R_isub (q := 77) rfl rfl ?_
          refine R_ret rfl (Or.inl rfl) ?_
          refine ⟨dS_6.trans ?_, rfl⟩
          first | exact if_pos (by omega) | exact if_neg (by omega)
        · refine R_iconst (q := 55) rfl rfl ?_
          refine R_goto (q := 58) (tgt := 77) rfl rfl (by decide) ?_
          refine R_ret rfl (Or.inl rfl) ?_
          refine ⟨dS_6.trans ?_, rfl⟩
          first | exact if_pos (by omega) | exact if_neg (by omega)
      · omega
    | succ n ih =>
      intro i u hi
      have b := dS_bd iB ⟨g1.1, g2⟩ i (by omega)
      have hk : 0 ≤ (i : Int) ∧ (i : Int) < 6 := by omega
      have hdf := df_bd (f := M 200) (t := t) (k := (i : Int)) c1.1 c2.1
      have e1 : dS (M 200) t (i + 1) = dS (M 200) t i + ds (M 200) t (i : Int) * df (M 200) t (i : Int) * M 200 (15 + (i : Int)) := rfl
      have e4 : ds (M 200) t (i : Int) = bt_ (M 200 4 < df (M 200) t (i : Int)) 1 := rfl
      refine R_iload_n (q := 5) (i := 3) rfl rfl rfl rfl ?_
      refine R_bipush (q := 7) rfl rfl (by decide) ?_
      refine R_icmp_ge (q := 10) (tgt := 50) rfl rfl (by decide) (by omega) (by omega) (fun h7 => ?_) (fun h7 => ?_)
      · omega
      · refine R_aload_n (q := 11) (i := 0) rfl rfl rfl rfl ?_
        refine R_getR (q := 14) rfl rfl rfl (lay0 hst) rfl (by omega) ?_
        refine R_iload_n (q := 15) (i := 1) rfl rfl rfl rfl ?_
        refine R_iload_n (q := 16) (i := 3) rfl rfl rfl rfl ?_
        refine R_cV2I (q := 19) (ci := 5) (C := C_X5_difference) rfl rfl rfl rfl rfl ⟨_, _, _, rfl, ⟨tkI hst, ⟨g1.1, g2⟩, hk, hr.ppo iB g1 g2⟩⟩ rfl (lay_tk (tkI hst)) (by omega) (fun x M' hc => ?_)
        replace hc := hc _ _ _ rfl
        obtain ⟨rfl, rfl⟩ := hc
        refine R_istore (q := 21) rfl rfl rfl ?_
        refine R_iload (q := 23) rfl rfl rfl ?_
        refine R_aload_n (q := 24) (i := 0) rfl rfl rfl rfl ?_
        refine R_getR (q := 27) rfl rfl rfl (lay0 hst) rfl (by omega) ?_
        refine R_iconst (q := 28) rfl rfl ?_
        refine R_iald (q := 29) (v := M 200 4) rfl rfl (layi hst rfl) (by omega) (by omega) (hr.st (by omega)) ?_
        refine R_icmp_le (q := 32) (tgt := 44) rfl rfl (by decide) (by omega) (by omega) (fun h29 => ?_) (fun h29 => ?_)
        · rw [bt_f (by omega)] at e4
          rw [e4, Int.zero_mul, Int.zero_mul, Int.add_zero] at e1
          refine R_iinc (q := 47) rfl rfl rfl rfl ?_
          refine R_goto (q := 50) (tgt := 4) rfl rfl (by decide) ?_
          rw [← e1]
          exact ih (i + 1) _ (by omega)
        · rw [bt_t (by omega)] at e4
          rw [e4, Int.one_mul] at e1
          refine R_iload_n (q := 33) (i := 2) rfl rfl rfl rfl ?_
          refine R_iload (q := 35) rfl rfl rfl ?_
          refine R_aload_n (q := 36) (i := 0) rfl rfl rfl rfl ?_
          refine R_getR (q := 39) rfl rfl rfl (lay0 hst) rfl (by omega) ?_
          refine R_iload_n (q := 40) (i := 3) rfl rfl rfl rfl ?_
          refine R_iald (q := 41) (v := M 200 (15 + (i : Int))) rfl rfl (layi hst rfl) (by omega) (by omega) (hr.wt hk) ?_
          refine R_imul (q := 42) rfl rfl ?_
          refine R_iadd (q := 43) rfl rfl ?_
          refine R_istore_n (q := 44) (i := 2) rfl rfl rfl rfl ?_
          refine R_iinc (q := 47) rfl rfl rfl rfl ?_
          refine R_goto (q := 50) (tgt := 4) rfl rfl (by decide) ?_
          rw [← e1]
          exact ih (i + 1) _ (by omega)
  refine R_iconst (q := 1) rfl rfl ?_
  refine R_istore_n (q := 2) (i := 2) rfl rfl rfl rfl ?_
  refine R_iconst (q := 3) rfl rfl ?_
  refine R_istore_n (q := 4) (i := 3) rfl rfl rfl rfl ?_
  exact L1 6 0 _ rfl
set_option maxRecDepth 100000 in
theorem mt_X4_doubtOf : MtOK yX4_doubtOf cX4_doubtOf 5 (some .int) 2 C_X4_doubtOf := by
  refine mt_of sx_X4_doubtOf (by decide +kernel) (Or.inl ⟨rfl, rfl, rfl⟩) (by decide +kernel) fdX4_ok kLX4_ok kIX4_ok sgX4_ok ntX4_ok
    (all_cons (clokV mt_X5_difference rfl (GT_at 373 (by decide +kernel) (by decide +kernel)) (GT_at 14 (by decide +kernel) (by decide +kernel)) (GT_at 376 (by decide +kernel) (by decide +kernel)) (by decide +kernel) (by decide) (GT_at 374 (by decide +kernel) (by decide +kernel)) (GT_at 375 (by decide +kernel) (by decide +kernel)) rfl rfl) (all_nil)) ?_ ?_
  · rintro as M - ⟨a, t, rfl, hp⟩
    exact Nat.le_of_ble_eq_true rfl
  · rintro L scr as M - ⟨a, t, rfl, hp⟩
    exact Runs.mono (fun x M' h _ _ e => by cases e; exact h) (ok_X4_doubtOf L scr a t M hp)
abbrev C_X4_doubtsAt : Ct := (2, true, fun as M => ∃ (a : Nat) (d : Int), as = [wR a, wI d] ∧ (SI M a ∧ 0 ≤ d ∧ d < 3), fun as M x M' => ∀ (a : Nat) (d : Int), as = [wR a, wI d] → ((sdD (M 200) d) = x ∧ (M) = M'))
def sx_X4_doubtsAt : Sx := (tb_X4_doubtsAt, fdX4, kLX4, kIX4, sgX4, ntX4, [(75, (4, C_X4_doubtOf))], 1)
set_option maxRecDepth 100000 in
set_option maxHeartbeats 1000000 in
theorem ok_X4_doubtsAt (L : Nat) (scr : Int → Int) (a : Nat) (d : Int) (M : Mem) (hp : SI M a ∧ 0 ≤ d ∧ d < 3) : Runs sx_X4_doubtsAt L (xcF scr) (fun x M' => (sdD (M 200) d) = x ∧ (M) = M') 0 [wR a, wI d, none, none] [] M := by
  obtain ⟨⟨hst, hr, I⟩, g1⟩ := hp
  have hb := id hst
  unfold isSt at hb
  have i7 := I.i7
  have le := I.le g1.1 g1.2
  have ew := hr.wa g1
  have L1 : ∀ (n k : Nat), k + n = (M 200 (27 + 4 * d)).toNat → Runs sx_X4_doubtsAt L (xcF scr) (fun x M' => (sdD (M 200) d) = x ∧ M = M') 4 [wR a, wI d, wI (sdP (M 200) d k), wI (k : Int)] [] M := by
    intro n
    induction n with
    | zero =>
      intro k hk
      refine R_iload_n (q := 5) (i := 3) rfl rfl rfl rfl ?_
      refine R_aload_n (q := 6) (i := 0) rfl rfl rfl rfl ?_
      refine R_getR (q := 9) rfl rfl rfl (lay0 hst) rfl (by omega) ?_
      refine R_iload_n (q := 10) (i := 1) rfl rfl rfl rfl ?_
      refine R_aald (q := 11) (r2 := a + 5 + 2 * d.toNat) rfl rfl (layi hst rfl) (by omega) (by omega) rfl ?_
      refine R_getI (q := 14) (k1 := 1) rfl rfl rfl (lay_dk (dkI hst g1)) rfl (by omega) rfl ?_
      refine R_icmp_ge (q := 17) (tgt := 41) rfl rfl (by decide) (by omega) (by omega) (fun h14 => ?_) (fun h14 => ?_)
      · refine R_iload_n (q := 42) (i := 2) rfl rfl rfl rfl ?_
        refine R_ret rfl (Or.inl rfl) ?_
        unfold sdD
        rw [← hk]
        exact ⟨rfl, rfl⟩
      · omega
    | succ n ih =>
      intro k hk
      have q := I.2.2.2.2.1 d k ⟨g1.1, g1.2, by omega, by omega⟩
      refine R_iload_n (q := 5) (i := 3) rfl rfl rfl rfl ?_
      refine R_aload_n (q := 6) (i := 0) rfl rfl rfl rfl ?_
      refine R_getR (q := 9) rfl rfl rfl (lay0 hst) rfl (by omega) ?_
      refine R_iload_n (q := 10) (i := 1) rfl rfl rfl rfl ?_
      refine R_aald (q := 11) (r2 := a + 5 + 2 * d.toNat) rfl rfl (layi hst rfl) (by omega) (by omega) rfl ?_
      refine R_getI (q := 14) (k1 := 1) rfl rfl rfl (lay_dk (dkI hst g1)) rfl (by omega) rfl ?_
      refine R_icmp_ge (q := 17) (tgt := 41) rfl rfl (by decide) (by omega) (by omega) (fun h14 => ?_) (fun h14 => ?_)
      · omega
      · refine R_iload_n (q := 18) (i := 2) rfl rfl rfl rfl ?_
        refine R_aload_n (q := 19) (i := 0) rfl rfl rfl rfl ?_
        refine R_aload_n (q := 20) (i := 0) rfl rfl rfl rfl ?_
        refine R_getR (q := 23) rfl rfl rfl (lay0 hst) rfl (by omega) ?_
        refine R_iload_n (q := 24) (i := 1) rfl rfl rfl rfl ?_
        refine R_aald (q := 25) (r2 := a + 5 + 2 * d.toNat) rfl rfl (layi hst rfl) (by omega) (by omega) rfl ?_
        refine R_getR (q := 28) rfl rfl rfl (lay_dk (dkI hst g1)) rfl (by omega) ?_
        refine R_iload_n (q := 29) (i := 3) rfl rfl rfl rfl ?_
        refine R_iald (q := 30) (v := M 200 (38 + 16 * d + (k : Int))) rfl rfl (lay_dq (dkI hst g1)) (by omega) (by omega) (hr.qu g1 (by omega)) ?_
        refine R_cV1I (q := 33) (ci := 4) (C := C_X4_doubtOf) rfl rfl rfl rfl rfl ⟨_, _, rfl, ⟨⟨hst, hr, I⟩, q.1, q.2.1⟩⟩ rfl (lay0 hst) (by omega) (fun x M' hc => ?_)
        replace hc := hc _ _ rfl
        obtain ⟨rfl, rfl⟩ := hc
        refine R_iadd (q := 34) rfl rfl ?_
        refine R_istore_n (q := 35) (i := 2) rfl rfl rfl rfl ?_
        refine R_iinc (q := 38) rfl rfl rfl rfl ?_
        refine R_goto (q := 41) (tgt := 4) rfl rfl (by decide) ?_
        exact ih (k + 1) (by omega)
  refine R_iconst (q := 1) rfl rfl ?_
  refine R_istore_n (q := 2) (i := 2) rfl rfl rfl rfl ?_
  refine R_iconst (q := 3) rfl rfl ?_
  refine R_istore_n (q := 4) (i := 3) rfl rfl rfl rfl ?_
  exact L1 (M 200 (27 + 4 * d)).toNat 0 (by omega)
set_option maxRecDepth 100000 in
theorem mt_X4_doubtsAt : MtOK yX4_doubtsAt cX4_doubtsAt 4 (some .int) 3 C_X4_doubtsAt := by
  refine mt_of sx_X4_doubtsAt (by decide +kernel) (Or.inl ⟨rfl, rfl, rfl⟩) (by decide +kernel) fdX4_ok kLX4_ok kIX4_ok sgX4_ok ntX4_ok
    (all_cons (clokV mt_X4_doubtOf rfl (GT_at 417 (by decide +kernel) (by decide +kernel)) (GT_at 12 (by decide +kernel) (by decide +kernel)) (GT_at 372 (by decide +kernel) (by decide +kernel)) (by decide +kernel) (by decide) (GT_at 370 (by decide +kernel) (by decide +kernel)) (GT_at 371 (by decide +kernel) (by decide +kernel)) rfl rfl) (all_nil)) ?_ ?_
  · rintro as M - ⟨a, d, rfl, hp⟩
    exact Nat.le_of_ble_eq_true rfl
  · rintro L scr as M - ⟨a, d, rfl, hp⟩
    exact Runs.mono (fun x M' h _ _ e => by cases e; exact h) (ok_X4_doubtsAt L scr a d M hp)
/-- the greatest doubt of a desk's first n trunks -/
def gdP (f : Int → Int) (d : Int) : Nat → Int
  | 0 => 0
  | n + 1 => if gdP f d n < dbt f (f (38 + 16 * d + (n : Int))) then dbt f (f (38 + 16 * d + (n : Int))) else gdP f d n
def gdD (f : Int → Int) (d : Int) : Int := gdP f d (f (27 + 4 * d)).toNat
theorem gdP_bd {f : Int → Int} (I : Inv f) {d : Int} (hd : 0 ≤ d ∧ d < 3) : ∀ n : Nat, (n : Int) ≤ f (27 + 4 * d) → 0 ≤ gdP f d n ∧ gdP f d n ≤ 500
  | 0, _ => by show 0 ≤ (0 : Int) ∧ (0 : Int) ≤ 500; omega
  | n + 1, h => by
    have := gdP_bd I hd n (by omega)
    have q := I.2.2.2.2.1 d n ⟨hd.1, hd.2, by omega, by omega⟩
    have i7 := I.i7
    have b := dbt_bd I.1 (t := f (38 + 16 * d + (n : Int))) ⟨q.1, by omega⟩
    unfold gdP
    split <;> omega
abbrev C_X4_greatestDoubtAt : Ct := (2, true, fun as M => ∃ (a : Nat) (d : Int), as = [wR a, wI d] ∧ (SI M a ∧ 0 ≤ d ∧ d < 3), fun as M x M' => ∀ (a : Nat) (d : Int), as = [wR a, wI d] → ((gdD (M 200) d) = x ∧ (M) = M'))
def sx_X4_greatestDoubtAt : Sx := (tb_X4_greatestDoubtAt, fdX4, kLX4, kIX4, sgX4, ntX4, [(75, (4, C_X4_doubtOf))], 1)
set_option maxRecDepth 100000 in
set_option maxHeartbeats 1000000 in
theorem ok_X4_greatestDoubtAt (L : Nat) (scr : Int → Int) (a : Nat) (d : Int) (M : Mem) (hp : SI M a ∧ 0 ≤ d ∧ d < 3) : Runs sx_X4_greatestDoubtAt L (xcF scr) (fun x M' => (gdD (M 200) d) = x ∧ (M) = M') 0 [wR a, wI d, none, none] [] M := by
  obtain ⟨⟨hst, hr, I⟩, g1⟩ := hp
  have hb := id hst
  unfold isSt at hb
  have i7 := I.i7
  have le := I.le g1.1 g1.2
  have ew := hr.wa g1
  have L1 : ∀ (n k : Nat), k + n = (M 200 (27 + 4 * d)).toNat → Runs sx_X4_greatestDoubtAt L (xcF scr) (fun x M' => (gdD (M 200) d) = x ∧ M = M') 4 [wR a, wI d, wI (gdP (M 200) d k), wI (k : Int)] [] M := by
    intro n
    induction n with
    | zero =>
      intro k hk
      refine R_iload_n (q := 5) (i := 3) rfl rfl rfl rfl ?_
      refine R_aload_n (q := 6) (i := 0) rfl rfl rfl rfl ?_
      refine R_getR (q := 9) rfl rfl rfl (lay0 hst) rfl (by omega) ?_
      refine R_iload_n (q := 10) (i := 1) rfl rfl rfl rfl ?_
      refine R_aald (q := 11) (r2 := a + 5 + 2 * d.toNat) rfl rfl (layi hst rfl) (by omega) (by omega) rfl ?_
      refine R_getI (q := 14) (k1 := 1) rfl rfl rfl (lay_dk (dkI hst g1)) rfl (by omega) rfl ?_
      refine R_icmp_ge (q := 17) (tgt := 43) rfl rfl (by decide) (by omega) (by omega) (fun h14 => ?_) (fun h14 => ?_)
      · refine R_iload_n (q := 44) (i := 2) rfl rfl rfl rfl ?_
        refine R_ret rfl (Or.inl rfl) ?_
        unfold gdD
        rw [← hk]
        exact ⟨rfl, rfl⟩
      · omega
    | succ n ih =>
      intro k hk
      have q := I.2.2.2.2.1 d k ⟨g1.1, g1.2, by omega, by omega⟩
      have gb := gdP_bd I g1 k (by omega)
      have b := dbt_bd I.1 (t := M 200 (38 + 16 * d + (k : Int))) ⟨q.1, by omega⟩
      refine R_iload_n (q := 5) (i := 3) rfl rfl rfl rfl ?_
      refine R_aload_n (q := 6) (i := 0) rfl rfl rfl rfl ?_
      refine R_getR (q := 9) rfl rfl rfl (lay0 hst) rfl (by omega) ?_
      refine R_iload_n (q := 10) (i := 1) rfl rfl rfl rfl ?_
      refine R_aald (q := 11) (r2 := a + 5 + 2 * d.toNat) rfl rfl (layi hst rfl) (by omega) (by omega) rfl ?_
      refine R_getI (q := 14) (k1 := 1) rfl rfl rfl (lay_dk (dkI hst g1)) rfl (by omega) rfl ?_
      refine R_icmp_ge (q := 17) (tgt := 43) rfl rfl (by decide) (by omega) (by omega) (fun h14 => ?_) (fun h14 => ?_)
      · omega
      · refine R_iload_n (q := 18) (i := 2) rfl rfl rfl rfl ?_
        refine R_aload_n (q := 19) (i := 0) rfl rfl rfl rfl ?_
        refine R_aload_n (q := 20) (i := 0) rfl rfl rfl rfl ?_
        refine R_getR (q := 23) rfl rfl rfl (lay0 hst) rfl (by omega) ?_
        refine R_iload_n (q := 24) (i := 1) rfl rfl rfl rfl ?_
        refine R_aald (q := 25) (r2 := a + 5 + 2 * d.toNat) rfl rfl (layi hst rfl) (by omega) (by omega) rfl ?_
        refine R_getR (q := 28) rfl rfl rfl (lay_dk (dkI hst g1)) rfl (by omega) ?_
        refine R_iload_n (q := 29) (i := 3) rfl rfl rfl rfl ?_
        refine R_iald (q := 30) (v := M 200 (38 + 16 * d + (k : Int))) rfl rfl (lay_dq (dkI hst g1)) (by omega) (by omega) (hr.qu g1 (by omega)) ?_
        refine R_cV1I (q := 33) (ci := 4) (C := C_X4_doubtOf) rfl rfl rfl rfl rfl ⟨_, _, rfl, ⟨⟨hst, hr, I⟩, q.1, q.2.1⟩⟩ rfl (lay0 hst) (by omega) (fun x M' hc => ?_)
        replace hc := hc _ _ rfl
        obtain ⟨rfl, rfl⟩ := hc
        refine R_mmax (q := 36) rfl rfl rfl (by omega) (by omega) rfl ?_
        refine R_istore_n (q := 37) (i := 2) rfl rfl rfl rfl ?_
        refine R_iinc (q := 40) rfl rfl rfl rfl ?_
        refine R_goto (q := 43) (tgt := 4) rfl rfl (by decide) ?_
        exact ih (k + 1) (by omega)
  refine R_iconst (q := 1) rfl rfl ?_
  refine R_istore_n (q := 2) (i := 2) rfl rfl rfl rfl ?_
  refine R_iconst (q := 3) rfl rfl ?_
  refine R_istore_n (q := 4) (i := 3) rfl rfl rfl rfl ?_
  exact L1 (M 200 (27 + 4 * d)).toNat 0 (by omega)
set_option maxRecDepth 100000 in
theorem mt_X4_greatestDoubtAt : MtOK yX4_greatestDoubtAt cX4_greatestDoubtAt 4 (some .int) 3 C_X4_greatestDoubtAt := by
  refine mt_of sx_X4_greatestDoubtAt (by decide +kernel) (Or.inl ⟨rfl, rfl, rfl⟩) (by decide +kernel) fdX4_ok kLX4_ok kIX4_ok sgX4_ok ntX4_ok
    (all_cons (clokV mt_X4_doubtOf rfl (GT_at 417 (by decide +kernel) (by decide +kernel)) (GT_at 12 (by decide +kernel) (by decide +kernel)) (GT_at 372 (by decide +kernel) (by decide +kernel)) (by decide +kernel) (by decide) (GT_at 370 (by decide +kernel) (by decide +kernel)) (GT_at 371 (by decide +kernel) (by decide +kernel)) rfl rfl) (all_nil)) ?_ ?_
  · rintro as M - ⟨a, d, rfl, hp⟩
    exact Nat.le_of_ble_eq_true rfl
  · rintro L scr as M - ⟨a, d, rfl, hp⟩
    exact Runs.mono (fun x M' h _ _ e => by cases e; exact h) (ok_X4_greatestDoubtAt L scr a d M hp)
