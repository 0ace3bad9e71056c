theorem inl64_toInt (x : Int64) : inl64 x.toInt := by
  have h1 := Int64.le_toInt x
  have h2 := Int64.toInt_lt x
  exact ⟨by simpa using h1, by simpa using h2⟩
theorem xland_bd (l : Int) : 0 ≤ xland l 255 ∧ xland l 255 ≤ 255 := by
  unfold xland
  have h1 : ((Int64.ofInt l &&& Int64.ofInt 255).toBitVec).toNat ≤ 255 := by
    rw [Int64.toBitVec_and, BitVec.toNat_and]
    exact Nat.le_trans Nat.and_le_right (by decide +kernel)
  have h2 : (Int64.ofInt l &&& Int64.ofInt 255).toInt = (((Int64.ofInt l &&& Int64.ofInt 255).toBitVec).toNat : Int) := BitVec.toInt_eq_toNat_of_lt (by omega)
  rw [h2]
  omega
theorem xland_0 : xland 0 255 = 0 := by decide +kernel
theorem xlushr_in (l s : Int) : inl64 (xlushr l s) := inl64_toInt _
def chn : Nat → Int → Int → Int
  | 0, k, l => if l = 0 then k else 0
  | m + 1, k, l => if 33 ≤ xland l 255 ∧ xland l 255 ≤ 126 then chn m (k + 1) (xlushr l 8) else if l = 0 then k else 0
theorem chn_bd : ∀ (m : Nat) (k l : Int), 0 ≤ k → 0 ≤ chn m k l ∧ chn m k l ≤ k + m
  | 0, k, l, h => by
    unfold chn
    split <;> omega
  | m + 1, k, l, h => by
    unfold chn
    have := chn_bd m (k + 1) (xlushr l 8) (by omega)
    split
    · omega
    · split <;> omega
abbrev C_X7_charactersOf : Ct := (1, true, fun as M => ∃ (ch : Int), as = [wL ch] ∧ (inl64 ch), fun as M x M' => ∀ (ch : Int), as = [wL ch] → ((chn 8 0 ch) = x ∧ (M) = M'))
def sx_X7_charactersOf : Sx := (tb_X7_charactersOf, fdX7, kLX7, kIX7, sgX7, ntX7, [(92, (9, C_X7_in))], 1)
set_option maxRecDepth 100000 in
set_option maxHeartbeats 1000000 in
theorem ok_X7_charactersOf (L : Nat) (scr : Int → Int) (ch : Int) (M : Mem) (hp : inl64 ch) : Runs sx_X7_charactersOf L (xcF scr) (fun x M' => (chn 8 0 ch) = x ∧ (M) = M') 0 [wL ch, none, none, none, none] [] M := by
  obtain ⟨V, hV⟩ : ∃ V, V = chn 8 0 ch := ⟨_, rfl⟩
  rw [← hV]
  have L1 : ∀ (m : Nat) (k l : Int), k + m = 8 → 0 ≤ k → inl64 l → chn m k l = V → Runs sx_X7_charactersOf L (xcF scr) (fun x M' => (V) = x ∧ (M) = M') 5 [wL ch, none, wL l, none, wI k] [] M := by
    intro m
    induction m with
    | zero =>
      intro k l hk h0 hl e
      unfold chn at e
      by_cases z : l = 0
      · rw [if_pos z] at e
        subst z
        refine R_iload (q := 7) rfl rfl rfl ?_
        refine R_bipush (q := 9) rfl rfl (by decide) ?_
        refine R_icmp_ge (q := 12) (tgt := 40) rfl rfl (by decide) (by omega) (by omega) (fun h9 => ?_) (fun h9 => ?_)
        · refine R_lload_n (q := 41) (i := 2) rfl rfl rfl rfl ?_
          refine R_lconst (q := 42) (v := 0) rfl rfl rfl ?_
          refine R_lcmp (q := 43) rfl rfl (by omega) (by omega) ?_
          refine R_if_ne (q := 46) (tgt := 51) rfl rfl (by decide) (by omega) (fun h43 => ?_) (fun h43 => ?_)
          · omega
          · refine R_iload (q := 48) rfl rfl rfl ?_
            refine R_goto (q := 51) (tgt := 52) rfl rfl (by decide) ?_
            refine R_ret rfl (Or.inl rfl) ?_
            exact ⟨e.symm, rfl⟩
        · omega
      · rw [if_neg z] at e
        have hlt : (if (0 : Int) < l then (1 : Int) else if l = 0 then 0 else -1) ≠ 0 := by
          split
          · omega
          · omega
        refine R_iload (q := 7) rfl rfl rfl ?_
        refine R_bipush (q := 9) rfl rfl (by decide) ?_
        refine R_icmp_ge (q := 12) (tgt := 40) rfl rfl (by decide) (by omega) (by omega) (fun h9 => ?_) (fun h9 => ?_)
        · refine R_lload_n (q := 41) (i := 2) rfl rfl rfl rfl ?_
          refine R_lconst (q := 42) (v := 0) rfl rfl rfl ?_
          refine R_lcmp (q := 43) rfl rfl (by omega) (by omega) ?_
          refine R_if_ne (q := 46) (tgt := 51) rfl rfl (by decide) (by split <;> (try split) <;> omega) (fun h43 => ?_) (fun h43 => ?_)
          · refine R_iconst (q := 52) rfl rfl ?_
            refine R_ret rfl (Or.inl rfl) ?_
            exact ⟨e.symm, rfl⟩
          · exact absurd h43 (fun y => y hlt)
        · omega
    | succ m ih =>
      intro k l hk h0 hl e
      unfold chn at e
      have xb := xland_bd l
      have xb2 : inl64 (xland l 255) := ⟨by omega, by omega⟩
      by_cases y : 33 ≤ xland l 255 ∧ xland l 255 ≤ 126
      · rw [if_pos y] at e
        refine R_iload (q := 7) rfl rfl rfl ?_
        refine R_bipush (q := 9) rfl rfl (by decide) ?_
        refine R_icmp_ge (q := 12) (tgt := 40) rfl rfl (by decide) (by omega) (by omega) (fun h9 => ?_) (fun h9 => ?_)
        · omega
        · refine R_lload_n (q := 13) (i := 2) rfl rfl rfl rfl ?_
          refine R_ldc2 (q := 16) rfl rfl rfl ?_
          refine R_land (q := 17) rfl rfl ?_
          refine R_ldc2 (q := 20) rfl rfl rfl ?_
          refine R_ldc2 (q := 23) rfl rfl rfl ?_
          refine R_cS3I (q := 26) (ci := 9) (C := C_X7_in) rfl rfl rfl rfl rfl ⟨_, _, _, rfl, ⟨xb2, by omega, by omega⟩⟩ rfl rfl (fun x M' hc => ?_)
          replace hc := hc _ _ _ rfl
          have hc : (if 33 ≤ xland l 255 ∧ xland l 255 ≤ 126 then (1 : Int) else 0) = x ∧ M = M' := hc
          rw [if_pos y] at hc
          obtain ⟨rfl, rfl⟩ := hc
          refine R_if_eq (q := 29) (tgt := 40) rfl rfl (by decide) (by omega) (fun h26 => ?_) (fun h26 => ?_)
          · omega
          · refine R_lload_n (q := 30) (i := 2) rfl rfl rfl rfl ?_
            refine R_bipush (q := 32) rfl rfl (by decide) ?_
            refine R_lushr (q := 33) rfl rfl ?_
            refine R_lstore_n (q := 34) (i := 2) rfl rfl rfl rfl rfl ?_
            refine R_iinc (q := 37) rfl rfl rfl rfl ?_
            refine R_goto (q := 40) (tgt := 5) rfl rfl (by decide) ?_
            exact ih (k + 1) (xlushr l 8) (by omega) (by omega) (xlushr_in _ _) e
      · rw [if_neg y] at e
        by_cases z : l = 0
        · rw [if_pos z] at e
          subst z
          refine R_iload (q := 7) rfl rfl rfl ?_
          refine R_bipush (q := 9) rfl rfl (by decide) ?_
          refine R_icmp_ge (q := 12) (tgt := 40) rfl rfl (by decide) (by omega) (by omega) (fun h9 => ?_) (fun h9 => ?_)
          · omega
          · refine R_lload_n (q := 13) (i := 2) rfl rfl rfl rfl ?_
            refine R_ldc2 (q := 16) rfl rfl rfl ?_
            refine R_land (q := 17) rfl rfl ?_
            refine R_ldc2 (q := 20) rfl rfl rfl ?_
            refine R_ldc2 (q := 23) rfl rfl rfl ?_
            refine R_cS3I (q := 26) (ci := 9) (C := C_X7_in) rfl rfl rfl rfl rfl ⟨_, _, _, rfl, ⟨xb2, by omega, by omega⟩⟩ rfl rfl (fun x M' hc => ?_)
            replace hc := hc _ _ _ rfl
            have hc : (if 33 ≤ xland 0 255 ∧ xland 0 255 ≤ 126 then (1 : Int) else 0) = x ∧ M = M' := hc
            rw [if_neg y] at hc
            obtain ⟨rfl, rfl⟩ := hc
            refine R_if_eq (q := 29) (tgt := 40) rfl rfl (by decide) (by omega) (fun h26 => ?_) (fun h26 => ?_)
            · refine R_lload_n (q := 41) (i := 2) rfl rfl rfl rfl ?_
              refine R_lconst (q := 42) (v := 0) rfl rfl rfl ?_
              refine R_lcmp (q := 43) rfl rfl (by omega) (by omega) ?_
              refine R_if_ne (q := 46) (tgt := 51) rfl rfl (by decide) (by omega) (fun h43 => ?_) (fun h43 => ?_)
              · omega
              · refine R_iload (q := 48) rfl rfl rfl ?_
                refine R_goto (q := 51) (tgt := 52) rfl rfl (by decide) ?_
                refine R_ret rfl (Or.inl rfl) ?_
                exact ⟨e.symm, rfl⟩
            · omega
        · rw [if_neg z] at e
          have hlt : (if (0 : Int) < l then (1 : Int) else if l = 0 then 0 else -1) ≠ 0 := by
            split
            · omega
            · omega
          refine R_iload (q := 7) rfl rfl rfl ?_
          refine R_bipush (q := 9) rfl rfl (by decide) ?_
          refine R_icmp_ge (q := 12) (tgt := 40) rfl rfl (by decide) (by omega) (by omega) (fun h9 => ?_) (fun h9 => ?_)
          · omega
          · refine R_lload_n (q := 13) (i := 2) rfl rfl rfl rfl ?_
            refine R_ldc2 (q := 16) rfl rfl rfl ?_
            refine R_land (q := 17) rfl rfl ?_
            refine R_ldc2 (q := 20) rfl rfl rfl ?_
            refine R_ldc2 (q := 23) rfl rfl rfl ?_
            refine R_cS3I (q := 26) (ci := 9) (C := C_X7_in) rfl rfl rfl rfl rfl ⟨_, _, _, rfl, ⟨xb2, by omega, by omega⟩⟩ rfl rfl (fun x M' hc => ?_)
            replace hc := hc _ _ _ rfl
            have hc : (if 33 ≤ xland l 255 ∧ xland l 255 ≤ 126 then (1 : Int) else 0) = x ∧ M = M' := hc
            rw [if_neg y] at hc
            obtain ⟨rfl, rfl⟩ := hc
            refine R_if_eq (q := 29) (tgt := 40) rfl rfl (by decide) (by omega) (fun h26 => ?_) (fun h26 => ?_)
            · refine R_lload_n (q := 41) (i := 2) rfl rfl rfl rfl ?_
              refine R_lconst (q := 42) (v := 0) rfl rfl rfl ?_
              refine R_lcmp (q := 43) rfl rfl (by omega) (by omega) ?_
              refine R_if_ne (q := 46) (tgt := 51) rfl rfl (by decide) (by split <;> (try split) <;> omega) (fun h43 => ?_) (fun h43 => ?_)
              · refine R_iconst (q := 52) rfl rfl ?_
                refine R_ret rfl (Or.inl rfl) ?_
                exact ⟨e.symm, rfl⟩
              · exact absurd h43 (fun y => y hlt)
            · omega
  refine R_lload_n (q := 1) (i := 0) rfl rfl rfl rfl ?_
  refine R_lstore_n (q := 2) (i := 2) rfl rfl rfl rfl rfl ?_
  refine R_iconst (q := 3) rfl rfl ?_
  refine R_istore (q := 5) rfl rfl rfl ?_
  exact L1 8 0 ch rfl (by omega) hp hV.symm
set_option maxRecDepth 100000 in
theorem mt_X7_charactersOf : MtOK yX7_charactersOf cX7_charactersOf 5 (some .int) 1 C_X7_charactersOf := by
  refine mt_of sx_X7_charactersOf (by decide +kernel) (Or.inl ⟨rfl, rfl, rfl⟩) (by decide +kernel) fdX7_ok kLX7_ok kIX7_ok sgX7_ok ntX7_ok
    (all_cons (clokS mt_X7_in (GT_at 588 (by decide +kernel) (by decide +kernel)) (GT_at 44 (by decide +kernel) (by decide +kernel)) (GT_at 590 (by decide +kernel) (by decide +kernel)) (by decide +kernel) (by decide) (GT_at 589 (by decide +kernel) (by decide +kernel))) (all_nil)) ?_ ?_
  · rintro as M - ⟨ch, rfl, hp⟩
    exact Nat.le_of_ble_eq_true rfl
  · rintro L scr as M - ⟨ch, rfl, hp⟩
    exact Runs.mono (fun x M' h _ e => by cases e; exact h) (ok_X7_charactersOf L scr ch M hp)
def chb (ch j : Int) : Int := xland (xlushr ch (8 * j)) 255
def ptP (M : Mem) (ch n k : Int) : Mem := fun r j => if r = 14 ∧ M 11 4 ≤ j ∧ j < M 11 4 + k then chb ch (n - 1 - (j - M 11 4)) else M r j
theorem ptP_0 {M : Mem} {ch n : Int} : ptP M ch n 0 = M := by
  funext r j
  unfold ptP
  rw [if_neg (by omega)]
theorem ptP_r {M : Mem} {ch n k : Int} {r : Nat} (h : r ≠ 14) : ptP M ch n k r = M r := by
  funext j
  unfold ptP
  rw [if_neg (fun z => h z.1)]
theorem ptP_s {M : Mem} {ch n k : Int} (hk : 0 ≤ k) : upM (ptP M ch n k) 14 (M 11 4 + k) (chb ch (n - 1 - k)) = ptP M ch n (k + 1) := by
  funext r j
  unfold upM ptP
  by_cases hr : r = 14
  · subst hr
    by_cases e : j = M 11 4 + k
    · subst e
      rw [if_pos ⟨rfl, rfl⟩, if_pos ⟨rfl, by omega⟩]
      congr 1
      omega
    · rw [if_neg (fun z => e z.2)]
      by_cases z : M 11 4 ≤ j ∧ j < M 11 4 + k
      · rw [if_pos ⟨rfl, z⟩, if_pos ⟨rfl, by omega⟩]
      · rw [if_neg (fun y => z y.2), if_neg (fun y => z (by omega))]
  · rw [if_neg (fun z => hr z.1), if_neg (fun z => hr z.1), if_neg (fun z => hr z.1)]
abbrev C_X7_put : Ct := (2, true, fun as M => ∃ (o : Nat) (ch : Int), as = [wR o, wL ch] ∧ (o = 11 ∧ inl64 ch ∧ PdM M), fun as M x M' => ∀ (o : Nat) (ch : Int), as = [wR o, wL ch] → ((chn 8 0 ch = 0 ∧ x = -2 ∧ M = M') ∨ (chn 8 0 ch ≠ 0 ∧ 60 < M 11 4 + chn 8 0 ch ∧ x = -4 ∧ M = M') ∨ (chn 8 0 ch ≠ 0 ∧ M 11 4 + chn 8 0 ch ≤ 60 ∧ x = M 11 4 + chn 8 0 ch ∧ M' = upM (ptP M ch (chn 8 0 ch) (chn 8 0 ch)) 11 4 (M 11 4 + chn 8 0 ch))))
def sx_X7_put : Sx := (tb_X7_put, fdX7, kLX7, kIX7, sgX7, ntX7, [(186, (9, C_X7_charactersOf))], 1)
set_option maxRecDepth 100000 in
set_option maxHeartbeats 1000000 in
theorem ok_X7_put (L : Nat) (scr : Int → Int) (o : Nat) (ch : Int) (M : Mem) (hp : o = 11 ∧ inl64 ch ∧ PdM M) : Runs sx_X7_put L (xcF scr) (fun x M' => (chn 8 0 ch = 0 ∧ x = -2 ∧ M = M') ∨ (chn 8 0 ch ≠ 0 ∧ 60 < M 11 4 + chn 8 0 ch ∧ x = -4 ∧ M = M') ∨ (chn 8 0 ch ≠ 0 ∧ M 11 4 + chn 8 0 ch ≤ 60 ∧ x = M 11 4 + chn 8 0 ch ∧ M' = upM (ptP M ch (chn 8 0 ch) (chn 8 0 ch)) 11 4 (M 11 4 + chn 8 0 ch))) 0 [wR o, wL ch, none, none, none] [] M := by
  obtain ⟨rfl, h1, pd⟩ := hp
  have p60 := pd.1
  have nb := chn_bd 8 0 ch (by omega)
  obtain ⟨n, hn⟩ : ∃ n, n = chn 8 0 ch := ⟨_, rfl⟩
  rw [← hn] at nb ⊢
  have L1 : ∀ (m : Nat) (k : Int), 0 ≤ k → k + m = n → n ≠ 0 → M 11 4 + n ≤ 60 → Runs sx_X7_put L (xcF scr) (fun x M' => (n = 0 ∧ x = -2 ∧ M = M') ∨ (n ≠ 0 ∧ 60 < M 11 4 + n ∧ x = -4 ∧ M = M') ∨ (n ≠ 0 ∧ M 11 4 + n ≤ 60 ∧ x = M 11 4 + n ∧ M' = upM (ptP M ch n n) 11 4 (M 11 4 + n))) 29 [wR 11, wL ch, none, wI n, wI k] [] (ptP M ch n k) := by
    intro m
    induction m with
    | zero =>
      intro k h0 hk hz h60
      have hk : k = n := by omega
      subst hk
      have e4 : ptP M ch k k 11 4 = M 11 4 := by rw [ptP_r (by decide)]
      refine R_iload (q := 31) rfl rfl rfl ?_
      refine R_iload_n (q := 32) (i := 3) rfl rfl rfl rfl ?_
      refine R_icmp_ge (q := 35) (tgt := 69) rfl rfl (by decide) (by omega) (by omega) (fun h32 => ?_) (fun h32 => ?_)
      · refine R_aload_n (q := 70) (i := 0) rfl rfl rfl rfl ?_
        refine R_dup (q := 71) rfl rfl rfl ?_
        refine R_getI (q := 74) (k1 := 4) rfl rfl rfl rfl rfl (by omega) rfl ?_
        refine R_iload_n (q := 75) (i := 3) rfl rfl rfl rfl ?_
        refine R_iadd (q := 76) rfl rfl ?_
        refine R_putI (q := 79) (k1 := 4) rfl rfl rfl rfl rfl (by omega) rfl rfl rfl rfl ?_
        refine R_aload_n (q := 80) (i := 0) rfl rfl rfl rfl ?_
        refine R_getI (q := 83) (k1 := 4) rfl rfl rfl rfl rfl (by omega) rfl ?_
        refine R_ret rfl (Or.inl rfl) ?_
        refine Or.inr (Or.inr ⟨hz, h60, ?_, ?_⟩)
        · rw [upM_s, e4]
        · rw [e4]
      · omega
    | succ m ih =>
      intro k h0 hk hz h60
      have e4 : ptP M ch n k 11 4 = M 11 4 := by rw [ptP_r (by decide)]
      have xb := xland_bd (xlushr ch (8 * (n - 1 - k)))
      refine R_iload (q := 31) rfl rfl rfl ?_
      refine R_iload_n (q := 32) (i := 3) rfl rfl rfl rfl ?_
      refine R_icmp_ge (q := 35) (tgt := 69) rfl rfl (by decide) (by omega) (by omega) (fun h32 => ?_) (fun h32 => ?_)
      · omega
      · refine R_aload_n (q := 36) (i := 0) rfl rfl rfl rfl ?_
        refine R_getR (q := 39) rfl rfl rfl rfl rfl (by omega) ?_
        refine R_aload_n (q := 40) (i := 0) rfl rfl rfl rfl ?_
        refine R_getI (q := 43) (k1 := 4) rfl rfl rfl rfl rfl (by omega) rfl ?_
        refine R_iload (q := 45) rfl rfl rfl ?_
        refine R_iadd (q := 46) rfl rfl ?_
        refine R_lload_n (q := 47) (i := 1) rfl rfl rfl rfl ?_
        refine R_bipush (q := 49) rfl rfl (by decide) ?_
        refine R_iload_n (q := 50) (i := 3) rfl rfl rfl rfl ?_
        refine R_iconst (q := 51) rfl rfl ?_
        refine R_isub (q := 52) rfl rfl ?_
        refine R_iload (q := 54) rfl rfl rfl ?_
        refine R_isub (q := 55) rfl rfl ?_
        refine R_imul (q := 56) rfl rfl ?_
        refine R_lushr (q := 57) rfl rfl ?_
        refine R_ldc2 (q := 60) rfl rfl rfl ?_
        refine R_land (q := 61) rfl rfl ?_
        refine R_l2i (q := 62) rfl rfl (by omega) ?_
        refine R_iast (q := 63) (M2 := ptP M ch n (k + 1)) rfl rfl rfl (by omega) (by omega) (by rw [e4]; exact ptP_s h0) ?_
        refine R_iinc (q := 66) rfl rfl rfl rfl ?_
        refine R_goto (q := 69) (tgt := 29) rfl rfl (by decide) ?_
        exact ih (k + 1) (by omega) (by omega) hz h60
  by_cases hz : n = 0
  · refine R_lload_n (q := 1) (i := 1) rfl rfl rfl rfl ?_
    refine R_cS1I (q := 4) (ci := 9) (C := C_X7_charactersOf) rfl rfl rfl rfl rfl ⟨_, rfl, (by first | trivial | assumption | omega)⟩ rfl rfl (fun x M' hc => ?_)
    replace hc := hc _ rfl
    rw [← hn] at hc
    obtain ⟨rfl, rfl⟩ := hc
    refine R_istore_n (q := 5) (i := 3) rfl rfl rfl rfl ?_
    refine R_iload_n (q := 6) (i := 3) rfl rfl rfl rfl ?_
    refine R_if_ne (q := 9) (tgt := 12) rfl rfl (by decide) (by omega) (fun h6 => ?_) (fun h6 => ?_)
    · omega
    · refine R_bipush (q := 11) rfl rfl (by decide) ?_
      refine R_ret rfl (Or.inl rfl) ?_
      exact Or.inl ⟨hz, rfl, rfl⟩
  · by_cases h60 : 60 < M 11 4 + n
    · refine R_lload_n (q := 1) (i := 1) rfl rfl rfl rfl ?_
      refine R_cS1I (q := 4) (ci := 9) (C := C_X7_charactersOf) rfl rfl rfl rfl rfl ⟨_, rfl, (by first | trivial | assumption | omega)⟩ rfl rfl (fun x M' hc => ?_)
      replace hc := hc _ rfl
      rw [← hn] at hc
      obtain ⟨rfl, rfl⟩ := hc
      refine R_istore_n (q := 5) (i := 3) rfl rfl rfl rfl ?_
      refine R_iload_n (q := 6) (i := 3) rfl rfl rfl rfl ?_
      refine R_if_ne (q := 9) (tgt := 12) rfl rfl (by decide) (by omega) (fun h6 => ?_) (fun h6 => ?_)
      · refine R_aload_n (q := 13) (i := 0) rfl rfl rfl rfl ?_
        refine R_getI (q := 16) (k1 := 4) rfl rfl rfl rfl rfl (by omega) rfl ?_
        refine R_iload_n (q := 17) (i := 3) rfl rfl rfl rfl ?_
        refine R_iadd (q := 18) rfl rfl ?_
        refine R_bipush (q := 20) rfl rfl (by decide) ?_
        refine R_icmp_le (q := 23) (tgt := 26) rfl rfl (by decide) (by omega) (by omega) (fun h20 => ?_) (fun h20 => ?_)
        · omega
        · refine R_bipush (q := 25) rfl rfl (by decide) ?_
          refine R_ret rfl (Or.inl rfl) ?_
          exact Or.inr (Or.inl ⟨hz, h60, rfl, rfl⟩)
      · omega
    · have L9 := L1 n.toNat 0 (by omega) (by omega) hz (by omega)
      rw [ptP_0] at L9
      refine R_lload_n (q := 1) (i := 1) rfl rfl rfl rfl ?_
      refine R_cS1I (q := 4) (ci := 9) (C := C_X7_charactersOf) rfl rfl rfl rfl rfl ⟨_, rfl, (by first | trivial | assumption | omega)⟩ rfl rfl (fun x M' hc => ?_)
      replace hc := hc _ rfl
      rw [← hn] at hc
      obtain ⟨rfl, rfl⟩ := hc
      refine R_istore_n (q := 5) (i := 3) rfl rfl rfl rfl ?_
      refine R_iload_n (q := 6) (i := 3) rfl rfl rfl rfl ?_
      refine R_if_ne (q := 9) (tgt := 12) rfl rfl (by decide) (by omega) (fun h6 => ?_) (fun h6 => ?_)
      · refine R_aload_n (q := 13) (i := 0) rfl rfl rfl rfl ?_
        refine R_getI (q := 16) (k1 := 4) rfl rfl rfl rfl rfl (by omega) rfl ?_
        refine R_iload_n (q := 17) (i := 3) rfl rfl rfl rfl ?_
        refine R_iadd (q := 18) rfl rfl ?_
        refine R_bipush (q := 20) rfl rfl (by decide) ?_
        refine R_icmp_le (q := 23) (tgt := 26) rfl rfl (by decide) (by omega) (by omega) (fun h20 => ?_) (fun h20 => ?_)
        · refine R_iconst (q := 27) rfl rfl ?_
          refine R_istore (q := 29) rfl rfl rfl ?_
          exact L9
        · omega
      · omega
set_option maxRecDepth 100000 in
theorem mt_X7_put : MtOK yX7_put cX7_put 5 (some .int) 2 C_X7_put := by
  refine mt_of sx_X7_put (by decide +kernel) (Or.inl ⟨rfl, rfl, rfl⟩) (by decide +kernel) fdX7_ok kLX7_ok kIX7_ok sgX7_ok ntX7_ok
    (all_cons (clokS mt_X7_charactersOf (GT_at 811 (by decide +kernel) (by decide +kernel)) (GT_at 44 (by decide +kernel) (by decide +kernel)) (GT_at 813 (by decide +kernel) (by decide +kernel)) (by decide +kernel) (by decide) (GT_at 812 (by decide +kernel) (by decide +kernel))) (all_nil)) ?_ ?_
  · rintro as M - ⟨o, ch, rfl, hp⟩
    exact Nat.le_of_ble_eq_true rfl
  · rintro L scr as M - ⟨o, ch, rfl, hp⟩
    exact Runs.mono (fun x M' h _ _ e => by cases e; exact h) (ok_X7_put L scr o ch M hp)
