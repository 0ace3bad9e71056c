theorem sh_0 (F : Int → Int) : sh 0 F = F := by
  funext i
  show F (0 + i) = F i
  rw [Int.zero_add]
theorem un_0 (f : Int → Int) : un 0 f = f := by
  funext i
  show f (i - 0) = f i
  rw [Int.sub_zero]
theorem mr_0 (M : Mem) (f : Int → Int) : mr 0 M f = sta M f := by
  unfold mr
  rw [un_0]
theorem upM_s {M : Mem} {r : Nat} {k x : Int} : upM M r k x r k = x := by simp [upM]
theorem upM_r {M : Mem} {r r' : Nat} {k x : Int} (h : r' ≠ r) : upM M r k x r' = M r' := upM_ne r' h
theorem upM_k {M : Mem} {r : Nat} {k k' x : Int} (h : k' ≠ k) : upM M r k x r k' = M r k' := by simp [upM, h]
theorem cp_n {M : Mem} {s d n k : Int} (h : k < d ∨ d + n ≤ k) : cpM M 12 s 12 d n 12 k = M 12 k := by
  unfold cpM
  rw [if_neg (by omega)]
theorem cp_p {M : Mem} {s d n k : Int} (h : d ≤ k ∧ k < d + n) : cpM M 12 s 12 d n 12 k = M 12 (s + (k - d)) := by
  unfold cpM
  rw [if_pos ⟨rfl, h⟩]
theorem cp_r {M : Mem} {s d n : Int} {r : Nat} (h : r ≠ 12) : cpM M 12 s 12 d n r = M r := cpM_ne r h
/-- the state before is recorded, and the row 0 is n then -/
def Chg (M M' : Mem) (n : Int → Int) : Prop :=
  (∀ i, 0 ≤ i → i < 662 → M' 12 i = n i) ∧ (∀ i, 3310 ≤ i → i < 4634 → M' 12 i = M 12 i) ∧ M' 11 1 = (if M 11 1 = 4 then 4 else M 11 1 + 1) ∧
  (∀ j i, 1 ≤ j → j ≤ M' 11 1 → 0 ≤ i → i < 662 → M' 12 (662 * j + i) = if j = M' 11 1 then M 12 i else if M 11 1 = 4 then M 12 (662 * (j + 1) + i) else M 12 (662 * j + i))
def Fr (M M' : Mem) : Prop := ∀ r, r ≠ 11 → r ≠ 12 → M' r = M r
abbrev C_X7_copies : Ct := (3, false, fun as M => ∃ (o : Nat) (f : Int) (t : Int), as = [wR o, wI f, wI t] ∧ (o = 11 ∧ (0 ≤ f ∧ f ≤ 7) ∧ (0 ≤ t ∧ t ≤ 7) ∧ f ≠ t), fun as M x M' => ∀ (o : Nat) (f : Int) (t : Int), as = [wR o, wI f, wI t] → ((cpM M 12 (662 * f) 12 (662 * t) 662) = M'))
def sx_X7_copies : Sx := (tb_X7_copies, fdX7, kLX7, kIX7, sgX7, ntX7, [], 0)
set_option maxRecDepth 100000 in
set_option maxHeartbeats 1000000 in
theorem ok_X7_copies (L : Nat) (scr : Int → Int) (o : Nat) (f : Int) (t : Int) (M : Mem) (hp : o = 11 ∧ (0 ≤ f ∧ f ≤ 7) ∧ (0 ≤ t ∧ t ≤ 7) ∧ f ≠ t) : Runs sx_X7_copies L (xcF scr) (fun x M' => (cpM M 12 (662 * f) 12 (662 * t) 662) = M') 0 [wR o, wI f, wI t, none] [] M := by
  obtain ⟨rfl, h1, h2, h3⟩ := hp
  have L1 : ∀ (n : Nat) (k : Int), 0 ≤ k → k + n = 662 → Runs sx_X7_copies L (xcF scr) (fun x M' => (cpM M 12 (662 * f) 12 (662 * t) 662) = M') 2 [wR 11, wI f, wI t, wI k] [] (cpM M 12 (662 * f) 12 (662 * t) k) := by
    intro n
    induction n with
    | zero =>
      intro k h0 hk
      refine R_iload_n (q := 3) (i := 3) rfl rfl rfl rfl ?_
      refine R_sipush (q := 6) rfl rfl (by decide) ?_
      refine R_icmp_ge (q := 9) (tgt := 39) rfl rfl (by decide) (by omega) (by omega) (fun h6 => ?_) (fun h6 => ?_)
      · refine R_vret rfl rfl ?_
        rw [show k = 662 by omega]
      · omega
    | succ n ih =>
      intro k h0 hk
      have e : upM (cpM M 12 (662 * f) 12 (662 * t) k) 12 (662 * t + k) (M 12 (662 * f + k)) = cpM M 12 (662 * f) 12 (662 * t) (k + 1) := by
        funext r i
        unfold upM cpM
        by_cases hr : r = 12
        · subst hr
          by_cases hi : i = 662 * t + k
          · subst hi
            rw [if_pos ⟨rfl, rfl⟩, if_pos ⟨rfl, by omega⟩]
            congr 1
            omega
          · rw [if_neg (fun z => hi z.2)]
            by_cases hz : 662 * t ≤ i ∧ i < 662 * t + k
            · rw [if_pos ⟨rfl, hz⟩, if_pos ⟨rfl, by omega⟩]
            · rw [if_neg (fun z => hz z.2), if_neg (fun z => hz (by omega))]
        · rw [if_neg (fun z => hr z.1), if_neg (fun z => hr z.1), if_neg (fun z => hr z.1)]
      refine R_iload_n (q := 3) (i := 3) rfl rfl rfl rfl ?_
      refine R_sipush (q := 6) rfl rfl (by decide) ?_
      refine R_icmp_ge (q := 9) (tgt := 39) rfl rfl (by decide) (by omega) (by omega) (fun h6 => ?_) (fun h6 => ?_)
      · omega
      · refine R_aload_n (q := 10) (i := 0) rfl rfl rfl rfl ?_
        refine R_getR (q := 13) rfl rfl rfl rfl rfl (by omega) ?_
        refine R_sipush (q := 16) rfl rfl (by decide) ?_
        refine R_iload_n (q := 17) (i := 2) rfl rfl rfl rfl ?_
        refine R_imul (q := 18) rfl rfl ?_
        refine R_iload_n (q := 19) (i := 3) rfl rfl rfl rfl ?_
        refine R_iadd (q := 20) rfl rfl ?_
        refine R_aload_n (q := 21) (i := 0) rfl rfl rfl rfl ?_
        refine R_getR (q := 24) rfl rfl rfl rfl rfl (by omega) ?_
        refine R_sipush (q := 27) rfl rfl (by decide) ?_
        refine R_iload_n (q := 28) (i := 1) rfl rfl rfl rfl ?_
        refine R_imul (q := 29) rfl rfl ?_
        refine R_iload_n (q := 30) (i := 3) rfl rfl rfl rfl ?_
        refine R_iadd (q := 31) rfl rfl ?_
        refine R_iald (q := 32) (v := M 12 (662 * f + k)) rfl rfl rfl (by omega) (by omega) (cp_n (by omega)) ?_
        refine R_iast (q := 33) (M2 := cpM M 12 (662 * f) 12 (662 * t) (k + 1)) rfl rfl rfl (by omega) (by omega) e ?_
        refine R_iinc (q := 36) rfl rfl rfl rfl ?_
        refine R_goto (q := 39) (tgt := 2) rfl rfl (by decide) ?_
        exact ih (k + 1) (by omega) (by omega)
  have hM : cpM M 12 (662 * f) 12 (662 * t) 0 = M := by
    funext r i
    unfold cpM
    rw [if_neg (by omega)]
  have L9 := L1 662 0 (by omega) (by omega)
  rw [hM] at L9
  refine R_iconst (q := 1) rfl rfl ?_
  refine R_istore_n (q := 2) (i := 3) rfl rfl rfl rfl ?_
  exact L9
set_option maxRecDepth 100000 in
theorem mt_X7_copies : MtOK yX7_copies cX7_copies 4 none 0 C_X7_copies := by
  refine mt_of sx_X7_copies (by decide +kernel) (Or.inr (Or.inr ⟨rfl, rfl, rfl⟩)) (by decide +kernel) fdX7_ok kLX7_ok kIX7_ok sgX7_ok ntX7_ok
    (all_nil) ?_ ?_
  · rintro as M - ⟨o, f, t, rfl, hp⟩
    exact Nat.le_of_ble_eq_true rfl
  · rintro L scr as M - ⟨o, f, t, rfl, hp⟩
    exact Runs.mono (fun x M' h _ _ _ e => by cases e; exact h) (ok_X7_copies L scr o f t M hp)
abbrev C_X7_changes : Ct := (1, false, fun as M => ∃ (o : Nat), as = [wR o] ∧ (o = 11 ∧ 0 ≤ M 11 1 ∧ M 11 1 ≤ 4), fun as M x M' => ∀ (o : Nat), as = [wR o] → (Chg M M' (M 12) ∧ Fr M M' ∧ ∀ k, k ≠ 1 → M' 11 k = M 11 k))
def sx_X7_changes : Sx := (tb_X7_changes, fdX7, kLX7, kIX7, sgX7, ntX7, [(28, (7, C_X7_copies))], 0)
set_option maxRecDepth 100000 in
set_option maxHeartbeats 1000000 in
theorem ok_X7_changes (L : Nat) (scr : Int → Int) (o : Nat) (M : Mem) (hp : o = 11 ∧ 0 ≤ M 11 1 ∧ M 11 1 ≤ 4) : Runs sx_X7_changes L (xcF scr) (fun x M' => Chg M M' (M 12) ∧ Fr M M' ∧ ∀ k, k ≠ 1 → M' 11 k = M 11 k) 0 [wR o, none] [] M := by
  obtain ⟨rfl, h1, h2⟩ := hp
  by_cases h4 : M 11 1 = 4
  · refine R_aload_n (q := 1) (i := 0) rfl rfl rfl rfl ?_
    refine R_getI (q := 4) (k1 := 1) rfl rfl rfl rfl rfl (by omega) rfl ?_
    refine R_iconst (q := 5) rfl rfl ?_
    refine R_icmp_ne (q := 8) (tgt := 39) rfl rfl (by decide) (by omega) (by omega) (fun h5 => ?_) (fun h5 => ?_)
    · omega
    · refine R_iconst (q := 9) rfl rfl ?_
      refine R_istore_n (q := 10) (i := 1) rfl rfl rfl rfl ?_
      refine R_iload_n (q := 11) (i := 1) rfl rfl rfl rfl ?_
      refine R_iconst (q := 12) rfl rfl ?_
      refine R_icmp_ge (q := 15) (tgt := 29) rfl rfl (by decide) (by omega) (by omega) (fun h12 => ?_) (fun h12 => ?_)
      · omega
      · refine R_aload_n (q := 16) (i := 0) rfl rfl rfl rfl ?_
        refine R_iload_n (q := 17) (i := 1) rfl rfl rfl rfl ?_
        refine R_iconst (q := 18) rfl rfl ?_
        refine R_iadd (q := 19) rfl rfl ?_
        refine R_iload_n (q := 20) (i := 1) rfl rfl rfl rfl ?_
        refine R_cV2N (q := 23) (ci := 7) (C := C_X7_copies) rfl rfl rfl rfl rfl ⟨_, _, _, rfl, ⟨rfl, by omega, by omega, by omega⟩⟩ rfl rfl (by omega) (fun M' hc => ?_)
        replace hc := hc _ _ _ rfl
        subst hc
        refine R_iinc (q := 26) rfl rfl rfl rfl ?_
        refine R_goto (q := 29) (tgt := 10) rfl rfl (by decide) ?_
        refine R_iload_n (q := 11) (i := 1) rfl rfl rfl rfl ?_
        refine R_iconst (q := 12) rfl rfl ?_
        refine R_icmp_ge (q := 15) (tgt := 29) rfl rfl (by decide) (by omega) (by omega) (fun h12 => ?_) (fun h12 => ?_)
        · omega
        · refine R_aload_n (q := 16) (i := 0) rfl rfl rfl rfl ?_
          refine R_iload_n (q := 17) (i := 1) rfl rfl rfl rfl ?_
          refine R_iconst (q := 18) rfl rfl ?_
          refine R_iadd (q := 19) rfl rfl ?_
          refine R_iload_n (q := 20) (i := 1) rfl rfl rfl rfl ?_
          refine R_cV2N (q := 23) (ci := 7) (C := C_X7_copies) rfl rfl rfl rfl rfl ⟨_, _, _, rfl, ⟨rfl, by omega, by omega, by omega⟩⟩ rfl rfl (by omega) (fun M' hc => ?_)
          replace hc := hc _ _ _ rfl
          subst hc
          refine R_iinc (q := 26) rfl rfl rfl rfl ?_
          refine R_goto (q := 29) (tgt := 10) rfl rfl (by decide) ?_
          refine R_iload_n (q := 11) (i := 1) rfl rfl rfl rfl ?_
          refine R_iconst (q := 12) rfl rfl ?_
          refine R_icmp_ge (q := 15) (tgt := 29) rfl rfl (by decide) (by omega) (by omega) (fun h12 => ?_) (fun h12 => ?_)
          · omega
          · refine R_aload_n (q := 16) (i := 0) rfl rfl rfl rfl ?_
            refine R_iload_n (q := 17) (i := 1) rfl rfl rfl rfl ?_
            refine R_iconst (q := 18) rfl rfl ?_
            refine R_iadd (q := 19) rfl rfl ?_
            refine R_iload_n (q := 20) (i := 1) rfl rfl rfl rfl ?_
            refine R_cV2N (q := 23) (ci := 7) (C := C_X7_copies) rfl rfl rfl rfl rfl ⟨_, _, _, rfl, ⟨rfl, by omega, by omega, by omega⟩⟩ rfl rfl (by omega) (fun M' hc => ?_)
            replace hc := hc _ _ _ rfl
            subst hc
            refine R_iinc (q := 26) rfl rfl rfl rfl ?_
            refine R_goto (q := 29) (tgt := 10) rfl rfl (by decide) ?_
            refine R_iload_n (q := 11) (i := 1) rfl rfl rfl rfl ?_
            refine R_iconst (q := 12) rfl rfl ?_
            refine R_icmp_ge (q := 15) (tgt := 29) rfl rfl (by decide) (by omega) (by omega) (fun h12 => ?_) (fun h12 => ?_)
            · refine R_aload_n (q := 30) (i := 0) rfl rfl rfl rfl ?_
              refine R_dup (q := 31) rfl rfl rfl ?_
              refine R_getI (q := 34) (k1 := 1) rfl rfl rfl rfl rfl (by omega) rfl ?_
              refine R_iconst (q := 35) rfl rfl ?_
              refine R_isub (q := 36) rfl rfl ?_
              refine R_putI (q := 39) (k1 := 1) rfl rfl rfl rfl rfl (by omega) rfl rfl rfl rfl ?_
              refine R_aload_n (q := 40) (i := 0) rfl rfl rfl rfl ?_
              refine R_dup (q := 41) rfl rfl rfl ?_
              refine R_getI (q := 44) (k1 := 1) rfl rfl rfl rfl rfl (by omega) rfl ?_
              refine R_iconst (q := 45) rfl rfl ?_
              refine R_iadd (q := 46) rfl rfl ?_
              refine R_putI (q := 49) (k1 := 1) rfl rfl rfl rfl rfl (by omega) rfl rfl rfl rfl ?_
              refine R_aload_n (q := 50) (i := 0) rfl rfl rfl rfl ?_
              refine R_iconst (q := 51) rfl rfl ?_
              refine R_aload_n (q := 52) (i := 0) rfl rfl rfl rfl ?_
              refine R_getI (q := 55) (k1 := 1) rfl rfl rfl rfl rfl (by omega) rfl ?_
              refine R_cV2N (q := 58) (ci := 7) (C := C_X7_copies) rfl rfl rfl rfl rfl ⟨_, _, _, rfl, ⟨rfl, by omega, by simp only [upM_s, upM_r (show (11 : Nat) ≠ 12 by decide), cp_r (show (11 : Nat) ≠ 12 by decide), h4]; omega, by simp only [upM_s, cp_r (show (11 : Nat) ≠ 12 by decide), h4]; omega⟩⟩ rfl rfl (by omega) (fun M' hc => ?_)
              replace hc := hc _ _ _ rfl
              subst hc
              refine R_vret rfl rfl ?_
              simp only [upM_s, cp_r (show (11 : Nat) ≠ 12 by decide), h4]
              refine ⟨⟨fun i a b => ?_, fun i a b => ?_, ?_, fun j i a b c d => ?_⟩, fun r a b => ?_, fun k a => ?_⟩
              · rw [cp_n (by omega), upM_r (by decide), upM_r (by decide), cp_n (by omega), cp_n (by omega), cp_n (by omega)]
              · rw [cp_n (by omega), upM_r (by decide), upM_r (by decide), cp_n (by omega), cp_n (by omega), cp_n (by omega)]
              · rw [cp_r (by decide), upM_s, h4]
                rfl
              · rw [cp_r (show (11 : Nat) ≠ 12 by decide), upM_s] at b
                have e4 : (4 : Int) - 1 + 1 = 4 := rfl
                rw [cp_r (show (11 : Nat) ≠ 12 by decide), upM_s]
                rw [e4] at b ⊢
                rw [if_pos h4]
                have : j = 1 ∨ j = 2 ∨ j = 3 ∨ j = 4 := by omega
                rcases this with rfl | rfl | rfl | rfl
                · rw [if_neg (by omega), cp_n (by omega), upM_r (by decide), upM_r (by decide), cp_n (by omega), cp_n (by omega), cp_p (by omega)]
                  congr 1
                  omega
                · rw [if_neg (by omega), cp_n (by omega), upM_r (by decide), upM_r (by decide), cp_n (by omega), cp_p (by omega), cp_n (by omega)]
                  congr 1
                  omega
                · rw [if_neg (by omega), cp_n (by omega), upM_r (by decide), upM_r (by decide), cp_p (by omega), cp_n (by omega), cp_n (by omega)]
                  congr 1
                  omega
                · rw [if_pos rfl, cp_p (by omega), upM_r (by decide), upM_r (by decide), cp_n (by omega), cp_n (by omega), cp_n (by omega)]
                  congr 1
                  omega
              · rw [cp_r b, upM_r a, upM_r a, cp_r b, cp_r b, cp_r b]
              · rw [upM_k a, upM_k a, cp_r (show (11 : Nat) ≠ 12 by decide), cp_r (show (11 : Nat) ≠ 12 by decide), cp_r (show (11 : Nat) ≠ 12 by decide)]
            · omega
  · refine R_aload_n (q := 1) (i := 0) rfl rfl rfl rfl ?_
    refine R_getI (q := 4) (k1 := 1) rfl rfl rfl rfl rfl (by omega) rfl ?_
    refine R_iconst (q := 5) rfl rfl ?_
    refine R_icmp_ne (q := 8) (tgt := 39) rfl rfl (by decide) (by omega) (by omega) (fun h5 => ?_) (fun h5 => ?_)
    · refine R_aload_n (q := 40) (i := 0) rfl rfl rfl rfl ?_
      refine R_dup (q := 41) rfl rfl rfl ?_
      refine R_getI (q := 44) (k1 := 1) rfl rfl rfl rfl rfl (by omega) rfl ?_
      refine R_iconst (q := 45) rfl rfl ?_
      refine R_iadd (q := 46) rfl rfl ?_
      refine R_putI (q := 49) (k1 := 1) rfl rfl rfl rfl rfl (by omega) rfl rfl rfl rfl ?_
      refine R_aload_n (q := 50) (i := 0) rfl rfl rfl rfl ?_
      refine R_iconst (q := 51) rfl rfl ?_
      refine R_aload_n (q := 52) (i := 0) rfl rfl rfl rfl ?_
      refine R_getI (q := 55) (k1 := 1) rfl rfl rfl rfl rfl (by omega) rfl ?_
      refine R_cV2N (q := 58) (ci := 7) (C := C_X7_copies) rfl rfl rfl rfl rfl ⟨_, _, _, rfl, ⟨rfl, by omega, by rw [upM_s]; omega, by rw [upM_s]; omega⟩⟩ rfl rfl (by omega) (fun M' hc => ?_)
      replace hc := hc _ _ _ rfl
      rw [upM_s] at hc
      subst hc
      refine R_vret rfl rfl ?_
      refine ⟨⟨fun i a b => ?_, fun i a b => ?_, ?_, fun j i a b c d => ?_⟩, fun r a b => ?_, fun k a => ?_⟩
      · rw [cp_n (by omega), upM_r (by decide)]
      · rw [cp_n (by omega), upM_r (by decide)]
      · rw [cp_r (by decide), upM_s, if_neg h4]
      · rw [cp_r (show (11 : Nat) ≠ 12 by decide), upM_s] at b
        rw [cp_r (show (11 : Nat) ≠ 12 by decide), upM_s, if_neg h4]
        by_cases e : j = M 11 1 + 1
        · rw [if_pos e, cp_p (by omega), upM_r (by decide)]
          congr 1
          omega
        · rw [if_neg e, cp_n (by omega), upM_r (by decide)]
      · rw [cp_r b, upM_r a]
      · rw [cp_r (by decide), upM_k a]
    · omega
set_option maxRecDepth 100000 in
theorem mt_X7_changes : MtOK yX7_changes cX7_changes 2 none 1 C_X7_changes := by
  refine mt_of sx_X7_changes (by decide +kernel) (Or.inr (Or.inr ⟨rfl, rfl, rfl⟩)) (by decide +kernel) fdX7_ok kLX7_ok kIX7_ok sgX7_ok ntX7_ok
    (all_cons (clokV mt_X7_copies rfl (GT_at 604 (by decide +kernel) (by decide +kernel)) (GT_at 44 (by decide +kernel) (by decide +kernel)) (GT_at 607 (by decide +kernel) (by decide +kernel)) (by decide +kernel) (by decide) (GT_at 606 (by decide +kernel) (by decide +kernel)) (GT_at 12 (by decide +kernel) (by decide +kernel)) rfl rfl) (all_nil)) ?_ ?_
  · rintro as M - ⟨o, rfl, hp⟩
    exact Nat.le_of_ble_eq_true rfl
  · rintro L scr as M - ⟨o, rfl, hp⟩
    exact Runs.mono (fun x M' h _ e => by cases e; exact h) (ok_X7_changes L scr o M hp)
abbrev C_X7_sets : Ct := (3, true, fun as M => ∃ (o : Nat) (p : Int) (v : Int), as = [wR o, wI p, wI v] ∧ (o = 11 ∧ (0 ≤ p ∧ p < 662) ∧ 0 ≤ M 11 1 ∧ M 11 1 ≤ 4), fun as M x M' => ∀ (o : Nat) (p : Int) (v : Int), as = [wR o, wI p, wI v] → (M 12 p = x ∧ Chg M M' (us (M 12) p v) ∧ Fr M M' ∧ ∀ k, k ≠ 1 → M' 11 k = M 11 k))
def sx_X7_sets : Sx := (tb_X7_sets, fdX7, kLX7, kIX7, sgX7, ntX7, [(32, (7, C_X7_changes))], 1)
set_option maxRecDepth 100000 in
set_option maxHeartbeats 1000000 in
theorem ok_X7_sets (L : Nat) (scr : Int → Int) (o : Nat) (p : Int) (v : Int) (M : Mem) (hp : o = 11 ∧ (0 ≤ p ∧ p < 662) ∧ 0 ≤ M 11 1 ∧ M 11 1 ≤ 4) : Runs sx_X7_sets L (xcF scr) (fun x M' => M 12 p = x ∧ Chg M M' (us (M 12) p v) ∧ Fr M M' ∧ ∀ k, k ≠ 1 → M' 11 k = M 11 k) 0 [wR o, wI p, wI v, none] [] M := by
  obtain ⟨rfl, h1, h2⟩ := hp
  refine R_aload_n (q := 1) (i := 0) rfl rfl rfl rfl ?_
  refine R_cV0N (q := 4) (ci := 7) (C := C_X7_changes) rfl rfl rfl rfl rfl ⟨_, rfl, ⟨rfl, h2⟩⟩ rfl rfl (by omega) (fun M' hc => ?_)
  replace hc := hc _ rfl
  obtain ⟨⟨c1, c2, c3, c4⟩, c5, c6⟩ := hc
  refine R_aload_n (q := 5) (i := 0) rfl rfl rfl rfl ?_
  refine R_getR (q := 8) rfl rfl rfl rfl rfl (by omega) ?_
  refine R_iload_n (q := 9) (i := 1) rfl rfl rfl rfl ?_
  refine R_iald (q := 10) rfl rfl rfl (by omega) (by omega) rfl ?_
  refine R_istore_n (q := 11) (i := 3) rfl rfl rfl rfl ?_
  refine R_aload_n (q := 12) (i := 0) rfl rfl rfl rfl ?_
  refine R_getR (q := 15) rfl rfl rfl rfl rfl (by omega) ?_
  refine R_iload_n (q := 16) (i := 1) rfl rfl rfl rfl ?_
  refine R_iload_n (q := 17) (i := 2) rfl rfl rfl rfl ?_
  refine R_iast (q := 18) rfl rfl rfl (by omega) (by omega) rfl ?_
  refine R_iload_n (q := 19) (i := 3) rfl rfl rfl rfl ?_
  refine R_ret rfl (Or.inl rfl) ?_
  refine ⟨(c1 p h1.1 h1.2).symm, ⟨fun i a b => ?_, fun i a b => ?_, ?_, fun j i a b c d => ?_⟩, fun r a b => ?_, fun k a => ?_⟩
  · by_cases e : i = p
    · subst e
      rw [upM_s, us_s]
    · rw [upM_k e, us_n e, c1 i a b]
  · rw [upM_k (by omega), c2 i a b]
  · rw [upM_r (by decide), c3]
  · rw [upM_r (by decide)] at b
    rw [upM_k (by omega), upM_r (show (11 : Nat) ≠ 12 by decide), c4 j i a b c d]
  · rw [upM_r b, c5 r a b]
  · rw [upM_r (by decide), c6 k a]
set_option maxRecDepth 100000 in
theorem mt_X7_sets : MtOK yX7_sets cX7_sets 4 (some .int) 2 C_X7_sets := by
  refine mt_of sx_X7_sets (by decide +kernel) (Or.inl ⟨rfl, rfl, rfl⟩) (by decide +kernel) fdX7_ok kLX7_ok kIX7_ok sgX7_ok ntX7_ok
    (all_cons (clokV mt_X7_changes rfl (GT_at 600 (by decide +kernel) (by decide +kernel)) (GT_at 44 (by decide +kernel) (by decide +kernel)) (GT_at 603 (by decide +kernel) (by decide +kernel)) (by decide +kernel) (by decide) (GT_at 602 (by decide +kernel) (by decide +kernel)) (GT_at 11 (by decide +kernel) (by decide +kernel)) rfl rfl) (all_nil)) ?_ ?_
  · rintro as M - ⟨o, p, v, rfl, hp⟩
    exact Nat.le_of_ble_eq_true rfl
  · rintro L scr as M - ⟨o, p, v, rfl, hp⟩
    exact Runs.mono (fun x M' h _ _ _ e => by cases e; exact h) (ok_X7_sets L scr o p v M hp)
abbrev C_X7_isDesk : Ct := (1, true, fun as M => ∃ (d : Int), as = [wI d] ∧ (inr d), fun as M x M' => ∀ (d : Int), as = [wI d] → ((if 0 ≤ d ∧ d < 3 then 1 else 0) = x ∧ (M) = M'))
def sx_X7_isDesk : Sx := (tb_X7_isDesk, fdX7, kLX7, kIX7, sgX7, ntX7, [(92, (9, C_X7_in))], 2)
set_option maxRecDepth 100000 in
set_option maxHeartbeats 1000000 in
theorem ok_X7_isDesk (L : Nat) (scr : Int → Int) (d : Int) (M : Mem) (hp : inr d) : Runs sx_X7_isDesk L (xcF scr) (fun x M' => (if 0 ≤ d ∧ d < 3 then 1 else 0) = x ∧ (M) = M') 0 [wI d] [] M := by
  refine R_iload_n (q := 1) (i := 0) rfl rfl rfl rfl ?_
  refine R_i2l (q := 2) rfl rfl (by omega) ?_
  refine R_lconst (q := 3) (v := 0) rfl rfl rfl ?_
  refine R_ldc2 (q := 6) rfl rfl rfl ?_
  refine R_cS3I (q := 9) (ci := 9) (C := C_X7_in) rfl rfl rfl rfl rfl ⟨_, _, _, rfl, (by first | trivial | assumption | omega)⟩ rfl rfl (fun x M' hc => ?_)
  replace hc := hc _ _ _ rfl
  obtain ⟨rfl, rfl⟩ := hc
  refine R_ret rfl (Or.inr ⟨rfl, (by split <;> omega)⟩) ?_
  exact ⟨by split <;> split <;> omega, rfl⟩
set_option maxRecDepth 100000 in
theorem mt_X7_isDesk : MtOK yX7_isDesk cX7_isDesk 1 (some .boolean) 1 C_X7_isDesk := by
  refine mt_of sx_X7_isDesk (by decide +kernel) (Or.inr (Or.inl ⟨rfl, rfl, rfl⟩)) (by decide +kernel) fdX7_ok kLX7_ok kIX7_ok sgX7_ok ntX7_ok
    (all_cons (clokS mt_X7_in (GT_at 588 (by decide +kernel) (by decide +kernel)) (GT_at 44 (by decide +kernel) (by decide +kernel)) (GT_at 590 (by decide +kernel) (by decide +kernel)) (by decide +kernel) (by decide) (GT_at 589 (by decide +kernel) (by decide +kernel))) (all_nil)) ?_ ?_
  · rintro as M - ⟨d, rfl, hp⟩
    exact Nat.le_of_ble_eq_true rfl
  · rintro L scr as M - ⟨d, rfl, hp⟩
    exact Runs.mono (fun x M' h _ e => by cases e; exact h) (ok_X7_isDesk L scr d M hp)
abbrev C_X7_isKind : Ct := (1, true, fun as M => ∃ (d : Int), as = [wI d] ∧ (inr d), fun as M x M' => ∀ (d : Int), as = [wI d] → ((if 0 ≤ d ∧ d < 6 then 1 else 0) = x ∧ (M) = M'))
def sx_X7_isKind : Sx := (tb_X7_isKind, fdX7, kLX7, kIX7, sgX7, ntX7, [(92, (9, C_X7_in))], 2)
set_option maxRecDepth 100000 in
set_option maxHeartbeats 1000000 in
theorem ok_X7_isKind (L : Nat) (scr : Int → Int) (d : Int) (M : Mem) (hp : inr d) : Runs sx_X7_isKind L (xcF scr) (fun x M' => (if 0 ≤ d ∧ d < 6 then 1 else 0) = x ∧ (M) = M') 0 [wI d] [] M := by
  refine R_iload_n (q := 1) (i := 0) rfl rfl rfl rfl ?_
  refine R_i2l (q := 2) rfl rfl (by omega) ?_
  refine R_lconst (q := 3) (v := 0) rfl rfl rfl ?_
  refine R_ldc2 (q := 6) rfl rfl rfl ?_
  refine R_cS3I (q := 9) (ci := 9) (C := C_X7_in) rfl rfl rfl rfl rfl ⟨_, _, _, rfl, (by first | trivial | assumption | omega)⟩ rfl rfl (fun x M' hc => ?_)
  replace hc := hc _ _ _ rfl
  obtain ⟨rfl, rfl⟩ := hc
  refine R_ret rfl (Or.inr ⟨rfl, (by split <;> omega)⟩) ?_
  exact ⟨by split <;> split <;> omega, rfl⟩
set_option maxRecDepth 100000 in
theorem mt_X7_isKind : MtOK yX7_isKind cX7_isKind 1 (some .boolean) 1 C_X7_isKind := by
  refine mt_of sx_X7_isKind (by decide +kernel) (Or.inr (Or.inl ⟨rfl, rfl, rfl⟩)) (by decide +kernel) fdX7_ok kLX7_ok kIX7_ok sgX7_ok ntX7_ok
    (all_cons (clokS mt_X7_in (GT_at 588 (by decide +kernel) (by decide +kernel)) (GT_at 44 (by decide +kernel) (by decide +kernel)) (GT_at 590 (by decide +kernel) (by decide +kernel)) (by decide +kernel) (by decide) (GT_at 589 (by decide +kernel) (by decide +kernel))) (all_nil)) ?_ ?_
  · rintro as M - ⟨d, rfl, hp⟩
    exact Nat.le_of_ble_eq_true rfl
  · rintro L scr as M - ⟨d, rfl, hp⟩
    exact Runs.mono (fun x M' h _ e => by cases e; exact h) (ok_X7_isKind L scr d M hp)
abbrev C_X7_isTrunk : Ct := (2, true, fun as M => ∃ (o : Nat) (t : Int), as = [wR o, wI t] ∧ (o = 11 ∧ inr t ∧ 0 ≤ M 12 7 ∧ M 12 7 ≤ 64), fun as M x M' => ∀ (o : Nat) (t : Int), as = [wR o, wI t] → ((if 0 ≤ t ∧ t < M 12 7 then 1 else 0) = x ∧ (M) = M'))
def sx_X7_isTrunk : Sx := (tb_X7_isTrunk, fdX7, kLX7, kIX7, sgX7, ntX7, [(92, (9, C_X7_in))], 2)
set_option maxRecDepth 100000 in
set_option maxHeartbeats 1000000 in
theorem ok_X7_isTrunk (L : Nat) (scr : Int → Int) (o : Nat) (t : Int) (M : Mem) (hp : o = 11 ∧ inr t ∧ 0 ≤ M 12 7 ∧ M 12 7 ≤ 64) : Runs sx_X7_isTrunk L (xcF scr) (fun x M' => (if 0 ≤ t ∧ t < M 12 7 then 1 else 0) = x ∧ (M) = M') 0 [wR o, wI t] [] M := by
  obtain ⟨rfl, h1⟩ := hp
  refine R_iload_n (q := 1) (i := 1) rfl rfl rfl rfl ?_
  refine R_i2l (q := 2) rfl rfl (by omega) ?_
  refine R_lconst (q := 3) (v := 0) rfl rfl rfl ?_
  refine R_aload_n (q := 4) (i := 0) rfl rfl rfl rfl ?_
  refine R_getR (q := 7) rfl rfl rfl rfl rfl (by omega) ?_
  refine R_bipush (q := 9) rfl rfl (by decide) ?_
  refine R_iald (q := 10) rfl rfl rfl (by omega) (by omega) rfl ?_
  refine R_iconst (q := 11) rfl rfl ?_
  refine R_isub (q := 12) rfl rfl ?_
  refine R_i2l (q := 13) rfl rfl (by omega) ?_
  refine R_cS3I (q := 16) (ci := 9) (C := C_X7_in) rfl rfl rfl rfl rfl ⟨_, _, _, rfl, (by first | trivial | assumption | omega)⟩ rfl rfl (fun x M' hc => ?_)
  replace hc := hc _ _ _ rfl
  obtain ⟨rfl, rfl⟩ := hc
  refine R_ret rfl (Or.inr ⟨rfl, (by split <;> omega)⟩) ?_
  exact ⟨by split <;> split <;> omega, rfl⟩
set_option maxRecDepth 100000 in
theorem mt_X7_isTrunk : MtOK yX7_isTrunk cX7_isTrunk 2 (some .boolean) 1 C_X7_isTrunk := by
  refine mt_of sx_X7_isTrunk (by decide +kernel) (Or.inr (Or.inl ⟨rfl, rfl, rfl⟩)) (by decide +kernel) fdX7_ok kLX7_ok kIX7_ok sgX7_ok ntX7_ok
    (all_cons (clokS mt_X7_in (GT_at 588 (by decide +kernel) (by decide +kernel)) (GT_at 44 (by decide +kernel) (by decide +kernel)) (GT_at 590 (by decide +kernel) (by decide +kernel)) (by decide +kernel) (by decide) (GT_at 589 (by decide +kernel) (by decide +kernel))) (all_nil)) ?_ ?_
  · rintro as M - ⟨o, t, rfl, hp⟩
    exact Nat.le_of_ble_eq_true rfl
  · rintro L scr as M - ⟨o, t, rfl, hp⟩
    exact Runs.mono (fun x M' h _ _ e => by cases e; exact h) (ok_X7_isTrunk L scr o t M hp)
abbrev C_X7_isWaiting : Ct := (2, true, fun as M => ∃ (o : Nat) (t : Int), as = [wR o, wI t] ∧ (o = 11 ∧ inr t ∧ (0 ≤ M 12 7 ∧ M 12 7 ≤ 64) ∧ ∀ t, 0 ≤ t → t < M 12 7 → 0 ≤ M 12 (90 + 9 * t) ∧ M 12 (90 + 9 * t) ≤ 3), fun as M x M' => ∀ (o : Nat) (t : Int), as = [wR o, wI t] → ((if (0 ≤ t ∧ t < M 12 7) ∧ M 12 (90 + 9 * t) = 0 then 1 else 0) = x ∧ (M) = M'))
def sx_X7_isWaiting : Sx := (tb_X7_isWaiting, fdX7, kLX7, kIX7, sgX7, ntX7, [(98, (7, C_X7_isTrunk)), (39, (9, C_X7_trunkAt))], 2)
set_option maxRecDepth 100000 in
set_option maxHeartbeats 1000000 in
theorem ok_X7_isWaiting (L : Nat) (scr : Int → Int) (o : Nat) (t : Int) (M : Mem) (hp : o = 11 ∧ inr t ∧ (0 ≤ M 12 7 ∧ M 12 7 ≤ 64) ∧ ∀ t, 0 ≤ t → t < M 12 7 → 0 ≤ M 12 (90 + 9 * t) ∧ M 12 (90 + 9 * t) ≤ 3) : Runs sx_X7_isWaiting L (xcF scr) (fun x M' => (if (0 ≤ t ∧ t < M 12 7) ∧ M 12 (90 + 9 * t) = 0 then 1 else 0) = x ∧ (M) = M') 0 [wR o, wI t] [] M := by
  obtain ⟨rfl, h1, h2, h3⟩ := hp
  by_cases h4 : 0 ≤ t ∧ t < M 12 7
  · have h5 := h3 t h4.1 h4.2
    refine R_aload_n (q := 1) (i := 0) rfl rfl rfl rfl ?_
    refine R_iload_n (q := 2) (i := 1) rfl rfl rfl rfl ?_
    refine R_cV1I (q := 5) (ci := 7) (C := C_X7_isTrunk) rfl rfl rfl rfl rfl ⟨_, _, rfl, ⟨rfl, h1, h2⟩⟩ rfl rfl (by omega) (fun x M' hc => ?_)
    replace hc := hc _ _ rfl
    rw [if_pos h4] at hc
    obtain ⟨rfl, rfl⟩ := hc
    refine R_if_eq (q := 8) (tgt := 27) rfl rfl (by decide) (by omega) (fun h5 => ?_) (fun h5 => ?_)
    · omega
    · refine R_aload_n (q := 9) (i := 0) rfl rfl rfl rfl ?_
      refine R_getR (q := 12) rfl rfl rfl rfl rfl (by omega) ?_
      refine R_iconst (q := 13) rfl rfl ?_
      refine R_iload_n (q := 14) (i := 1) rfl rfl rfl rfl ?_
      refine R_cS2I (q := 17) (ci := 9) (C := C_X7_trunkAt) rfl rfl rfl rfl rfl ⟨_, _, rfl, (by first | trivial | assumption | omega)⟩ rfl rfl (fun x M' hc => ?_)
      replace hc := hc _ _ rfl
      try simp only [sh_mr, mr_mr] at hc
      obtain ⟨rfl, rfl⟩ := hc
      refine R_iconst (q := 18) rfl rfl ?_
      refine R_iadd (q := 19) rfl rfl ?_
      refine R_iald (q := 20) (v := M 12 (90 + 9 * t)) rfl rfl rfl (by omega) (by omega) (congrArg (M 12) (by omega)) ?_
      refine R_if_ne (q := 23) (tgt := 27) rfl rfl (by decide) (by omega) (fun h20 => ?_) (fun h20 => ?_)
      · rw [if_neg (fun z => h20 z.2)]
        refine R_iconst (q := 28) rfl rfl ?_
        refine R_ret rfl (Or.inr ⟨rfl, (by first | exact Or.inl rfl | exact Or.inr rfl | omega)⟩) ?_
        exact ⟨rfl, rfl⟩
      · rw [if_pos ⟨h4, by omega⟩]
        refine R_iconst (q := 24) rfl rfl ?_
        refine R_goto (q := 27) (tgt := 28) rfl rfl (by decide) ?_
        refine R_ret rfl (Or.inr ⟨rfl, (by first | exact Or.inl rfl | exact Or.inr rfl | omega)⟩) ?_
        exact ⟨rfl, rfl⟩
  · refine R_aload_n (q := 1) (i := 0) rfl rfl rfl rfl ?_
    refine R_iload_n (q := 2) (i := 1) rfl rfl rfl rfl ?_
    refine R_cV1I (q := 5) (ci := 7) (C := C_X7_isTrunk) rfl rfl rfl rfl rfl ⟨_, _, rfl, ⟨rfl, h1, h2⟩⟩ rfl rfl (by omega) (fun x M' hc => ?_)
    replace hc := hc _ _ rfl
    rw [if_neg h4] at hc
    obtain ⟨rfl, rfl⟩ := hc
    refine R_if_eq (q := 8) (tgt := 27) rfl rfl (by decide) (by omega) (fun h5 => ?_) (fun h5 => ?_)
    · refine R_iconst (q := 28) rfl rfl ?_
      refine R_ret rfl (Or.inr ⟨rfl, (by first | exact Or.inl rfl | exact Or.inr rfl | omega)⟩) ?_
      rw [if_neg (fun z => h4 z.1)]
      exact ⟨rfl, rfl⟩
    · omega
set_option maxRecDepth 100000 in
theorem mt_X7_isWaiting : MtOK yX7_isWaiting cX7_isWaiting 2 (some .boolean) 2 C_X7_isWaiting := by
  refine mt_of sx_X7_isWaiting (by decide +kernel) (Or.inr (Or.inl ⟨rfl, rfl, rfl⟩)) (by decide +kernel) fdX7_ok kLX7_ok kIX7_ok sgX7_ok ntX7_ok
    (all_cons (clokV mt_X7_isTrunk rfl (GT_at 677 (by decide +kernel) (by decide +kernel)) (GT_at 44 (by decide +kernel) (by decide +kernel)) (GT_at 680 (by decide +kernel) (by decide +kernel)) (by decide +kernel) (by decide) (GT_at 679 (by decide +kernel) (by decide +kernel)) (GT_at 19 (by decide +kernel) (by decide +kernel)) rfl rfl) (all_cons (clokS mt_X7_trunkAt (GT_at 659 (by decide +kernel) (by decide +kernel)) (GT_at 44 (by decide +kernel) (by decide +kernel)) (GT_at 661 (by decide +kernel) (by decide +kernel)) (by decide +kernel) (by decide) (GT_at 660 (by decide +kernel) (by decide +kernel))) (all_nil))) ?_ ?_
  · rintro as M - ⟨o, t, rfl, hp⟩
    exact Nat.le_of_ble_eq_true rfl
  · rintro L scr as M - ⟨o, t, rfl, hp⟩
    exact Runs.mono (fun x M' h _ _ e => by cases e; exact h) (ok_X7_isWaiting L scr o t M hp)
abbrev C_X7_waiting : Ct := (1, true, fun as M => ∃ (o : Nat), as = [wR o] ∧ (o = 11), fun as M x M' => ∀ (o : Nat), as = [wR o] → ((M 12 27 + M 12 31 + M 12 35) = x ∧ (M) = M'))
def sx_X7_waiting : Sx := (tb_X7_waiting, fdX7, kLX7, kIX7, sgX7, ntX7, [(20, (9, C_X7_deskAt))], 1)
set_option maxRecDepth 100000 in
set_option maxHeartbeats 1000000 in
theorem ok_X7_waiting (L : Nat) (scr : Int → Int) (o : Nat) (M : Mem) (hp : o = 11) : Runs sx_X7_waiting L (xcF scr) (fun x M' => (M 12 27 + M 12 31 + M 12 35) = x ∧ (M) = M') 0 [wR o] [] M := by
  subst hp
  refine R_aload_n (q := 1) (i := 0) rfl rfl rfl rfl ?_
  refine R_getR (q := 4) rfl rfl rfl rfl rfl (by omega) ?_
  refine R_iconst (q := 5) rfl rfl ?_
  refine R_iconst (q := 6) rfl rfl ?_
  refine R_cS2I (q := 9) (ci := 9) (C := C_X7_deskAt) rfl rfl rfl rfl rfl ⟨_, _, rfl, (by first | trivial | assumption | omega)⟩ rfl rfl (fun x M' hc => ?_)
  replace hc := hc _ _ rfl
  try simp only [sh_mr, mr_mr] at hc
  obtain ⟨rfl, rfl⟩ := hc
  refine R_iconst (q := 10) rfl rfl ?_
  refine R_iadd (q := 11) rfl rfl ?_
  refine R_iald (q := 12) (v := M 12 27) rfl rfl rfl (by omega) (by omega) (congrArg (M 12) (by omega)) ?_
  refine R_aload_n (q := 13) (i := 0) rfl rfl rfl rfl ?_
  refine R_getR (q := 16) rfl rfl rfl rfl rfl (by omega) ?_
  refine R_iconst (q := 17) rfl rfl ?_
  refine R_iconst (q := 18) rfl rfl ?_
  refine R_cS2I (q := 21) (ci := 9) (C := C_X7_deskAt) rfl rfl rfl rfl rfl ⟨_, _, rfl, (by first | trivial | assumption | omega)⟩ rfl rfl (fun x M' hc => ?_)
  replace hc := hc _ _ rfl
  try simp only [sh_mr, mr_mr] at hc
  obtain ⟨rfl, rfl⟩ := hc
  refine R_iconst (q := 22) rfl rfl ?_
  refine R_iadd (q := 23) rfl rfl ?_
  refine R_iald (q := 24) (v := M 12 31) rfl rfl rfl (by omega) (by omega) (congrArg (M 12) (by omega)) ?_
  refine R_iadd (q := 25) rfl rfl ?_
  refine R_aload_n (q := 26) (i := 0) rfl rfl rfl rfl ?_
  refine R_getR (q := 29) rfl rfl rfl rfl rfl (by omega) ?_
  refine R_iconst (q := 30) rfl rfl ?_
  refine R_iconst (q := 31) rfl rfl ?_
  refine R_cS2I (q := 34) (ci := 9) (C := C_X7_deskAt) rfl rfl rfl rfl rfl ⟨_, _, rfl, (by first | trivial | assumption | omega)⟩ rfl rfl (fun x M' hc => ?_)
  replace hc := hc _ _ rfl
  try simp only [sh_mr, mr_mr] at hc
  obtain ⟨rfl, rfl⟩ := hc
  refine R_iconst (q := 35) rfl rfl ?_
  refine R_iadd (q := 36) rfl rfl ?_
  refine R_iald (q := 37) (v := M 12 35) rfl rfl rfl (by omega) (by omega) (congrArg (M 12) (by omega)) ?_
  refine R_iadd (q := 38) rfl rfl ?_
  refine R_ret rfl (Or.inl rfl) ?_
  exact ⟨rfl, rfl⟩
set_option maxRecDepth 100000 in
theorem mt_X7_waiting : MtOK yX7_waiting cX7_waiting 1 (some .int) 1 C_X7_waiting := by
  refine mt_of sx_X7_waiting (by decide +kernel) (Or.inl ⟨rfl, rfl, rfl⟩) (by decide +kernel) fdX7_ok kLX7_ok kIX7_ok sgX7_ok ntX7_ok
    (all_cons (clokS mt_X7_deskAt (GT_at 555 (by decide +kernel) (by decide +kernel)) (GT_at 44 (by decide +kernel) (by decide +kernel)) (GT_at 557 (by decide +kernel) (by decide +kernel)) (by decide +kernel) (by decide) (GT_at 556 (by decide +kernel) (by decide +kernel))) (all_nil)) ?_ ?_
  · rintro as M - ⟨o, rfl, hp⟩
    exact Nat.le_of_ble_eq_true rfl
  · rintro L scr as M - ⟨o, rfl, hp⟩
    exact Runs.mono (fun x M' h _ e => by cases e; exact h) (ok_X7_waiting L scr o M hp)
abbrev C_X7_taken : Ct := (2, true, fun as M => ∃ (o : Nat) (b : Int), as = [wR o, wI b] ∧ (o = 11 ∧ (0 ≤ b ∧ b ≤ 4634)), fun as M x M' => ∀ (o : Nat) (b : Int), as = [wR o, wI b] → (((sh b (M 12)) 11 + (sh b (M 12)) 12 + (sh b (M 12)) 13) = x ∧ (M) = M'))
def sx_X7_taken : Sx := (tb_X7_taken, fdX7, kLX7, kIX7, sgX7, ntX7, [], 1)
set_option maxRecDepth 100000 in
set_option maxHeartbeats 1000000 in
theorem ok_X7_taken (L : Nat) (scr : Int → Int) (o : Nat) (b : Int) (M : Mem) (hp : o = 11 ∧ (0 ≤ b ∧ b ≤ 4634)) : Runs sx_X7_taken L (xcF scr) (fun x M' => ((sh b (M 12)) 11 + (sh b (M 12)) 12 + (sh b (M 12)) 13) = x ∧ (M) = M') 0 [wR o, wI b] [] M := by
  obtain ⟨rfl, h1⟩ := hp
  refine R_aload_n (q := 1) (i := 0) rfl rfl rfl rfl ?_
  refine R_getR (q := 4) rfl rfl rfl rfl rfl (by omega) ?_
  refine R_iload_n (q := 5) (i := 1) rfl rfl rfl rfl ?_
  refine R_bipush (q := 7) rfl rfl (by decide) ?_
  refine R_iadd (q := 8) rfl rfl ?_
  refine R_iald (q := 9) (v := (sh b (M 12)) 11) rfl rfl rfl (by omega) (by omega) (by first | exact rd12 (by omega) | exact rdmr (by omega)) ?_
  refine R_aload_n (q := 10) (i := 0) rfl rfl rfl rfl ?_
  refine R_getR (q := 13) rfl rfl rfl rfl rfl (by omega) ?_
  refine R_iload_n (q := 14) (i := 1) rfl rfl rfl rfl ?_
  refine R_bipush (q := 16) rfl rfl (by decide) ?_
  refine R_iadd (q := 17) rfl rfl ?_
  refine R_iald (q := 18) (v := (sh b (M 12)) 12) rfl rfl rfl (by omega) (by omega) (by first | exact rd12 (by omega) | exact rdmr (by omega)) ?_
  refine R_iadd (q := 19) rfl rfl ?_
  refine R_aload_n (q := 20) (i := 0) rfl rfl rfl rfl ?_
  refine R_getR (q := 23) rfl rfl rfl rfl rfl (by omega) ?_
  refine R_iload_n (q := 24) (i := 1) rfl rfl rfl rfl ?_
  refine R_bipush (q := 26) rfl rfl (by decide) ?_
  refine R_iadd (q := 27) rfl rfl ?_
  refine R_iald (q := 28) (v := (sh b (M 12)) 13) rfl rfl rfl (by omega) (by omega) (by first | exact rd12 (by omega) | exact rdmr (by omega)) ?_
  refine R_iadd (q := 29) rfl rfl ?_
  refine R_ret rfl (Or.inl rfl) ?_
  exact ⟨rfl, rfl⟩
set_option maxRecDepth 100000 in
theorem mt_X7_taken : MtOK yX7_taken cX7_taken 2 (some .int) 0 C_X7_taken := by
  refine mt_of sx_X7_taken (by decide +kernel) (Or.inl ⟨rfl, rfl, rfl⟩) (by decide +kernel) fdX7_ok kLX7_ok kIX7_ok sgX7_ok ntX7_ok
    (all_nil) ?_ ?_
  · rintro as M - ⟨o, b, rfl, hp⟩
    exact Nat.le_of_ble_eq_true rfl
  · rintro L scr as M - ⟨o, b, rfl, hp⟩
    exact Runs.mono (fun x M' h _ _ e => by cases e; exact h) (ok_X7_taken L scr o b M hp)
abbrev C_X7_isSlot : Ct := (1, true, fun as M => ∃ (s : Int), as = [wI s] ∧ (inr s), fun as M x M' => ∀ (s : Int), as = [wI s] → ((if s = 0 ∨ s = 1 then 1 else 0) = x ∧ (M) = M'))
def sx_X7_isSlot : Sx := (tb_X7_isSlot, fdX7, kLX7, kIX7, sgX7, ntX7, [], 2)
set_option maxRecDepth 100000 in
set_option maxHeartbeats 1000000 in
theorem ok_X7_isSlot (L : Nat) (scr : Int → Int) (s : Int) (M : Mem) (hp : inr s) : Runs sx_X7_isSlot L (xcF scr) (fun x M' => (if s = 0 ∨ s = 1 then 1 else 0) = x ∧ (M) = M') 0 [wI s] [] M := by
  refine R_iload_n (q := 1) (i := 0) rfl rfl rfl rfl ?_
  refine R_if_eq (q := 4) (tgt := 9) rfl rfl (by decide) (by omega) (fun h1 => ?_) (fun h1 => ?_)
  · refine R_iconst (q := 10) rfl rfl ?_
    refine R_goto (q := 13) (tgt := 14) rfl rfl (by decide) ?_
    refine R_ret rfl (Or.inr ⟨rfl, (by first | exact Or.inl rfl | exact Or.inr rfl | omega)⟩) ?_
    exact ⟨by split <;> omega, rfl⟩
  · refine R_iload_n (q := 5) (i := 0) rfl rfl rfl rfl ?_
    refine R_iconst (q := 6) rfl rfl ?_
    refine R_icmp_ne (q := 9) (tgt := 13) rfl rfl (by decide) (by omega) (by omega) (fun h6 => ?_) (fun h6 => ?_)
    · refine R_iconst (q := 14) rfl rfl ?_
      refine R_ret rfl (Or.inr ⟨rfl, (by first | exact Or.inl rfl | exact Or.inr rfl | omega)⟩) ?_
      exact ⟨by split <;> omega, rfl⟩
    · refine R_iconst (q := 10) rfl rfl ?_
      refine R_goto (q := 13) (tgt := 14) rfl rfl (by decide) ?_
      refine R_ret rfl (Or.inr ⟨rfl, (by first | exact Or.inl rfl | exact Or.inr rfl | omega)⟩) ?_
      exact ⟨by split <;> omega, rfl⟩
set_option maxRecDepth 100000 in
theorem mt_X7_isSlot : MtOK yX7_isSlot cX7_isSlot 1 (some .boolean) 0 C_X7_isSlot := by
  refine mt_of sx_X7_isSlot (by decide +kernel) (Or.inr (Or.inl ⟨rfl, rfl, rfl⟩)) (by decide +kernel) fdX7_ok kLX7_ok kIX7_ok sgX7_ok ntX7_ok
    (all_nil) ?_ ?_
  · rintro as M - ⟨s, rfl, hp⟩
    exact Nat.le_of_ble_eq_true rfl
  · rintro L scr as M - ⟨s, rfl, hp⟩
    exact Runs.mono (fun x M' h _ e => by cases e; exact h) (ok_X7_isSlot L scr s M hp)
def vS (s v : Int) : Prop := (s = 0 ∧ 0 ≤ v ∧ v ≤ 200) ∨ (s = 1 ∧ 0 ≤ v ∧ v ≤ 50) ∨ (s = 2 ∧ 0 ≤ v ∧ v ≤ 90) ∨ (s = 3 ∧ 0 ≤ v ∧ v ≤ 20) ∨ (s = 4 ∧ 0 ≤ v ∧ v ≤ 9) ∨ (s = 5 ∧ 1 ≤ v ∧ v ≤ 4)
abbrev C_X7_isValue : Ct := (2, true, fun as M => ∃ (s : Int) (v : Int), as = [wI s, wI v] ∧ (inr s ∧ inr v), fun as M x M' => ∀ (s : Int) (v : Int), as = [wI s, wI v] → ((x = 1 ∧ vS s v ∨ x = 0 ∧ ¬ vS s v) ∧ M = M'))
def sx_X7_isValue : Sx := (tb_X7_isValue, fdX7, kLX7, kIX7, sgX7, ntX7, [(92, (9, C_X7_in))], 2)
set_option maxRecDepth 100000 in
set_option maxHeartbeats 1000000 in
theorem ok_X7_isValue (L : Nat) (scr : Int → Int) (s : Int) (v : Int) (M : Mem) (hp : inr s ∧ inr v) : Runs sx_X7_isValue L (xcF scr) (fun x M' => (x = 1 ∧ vS s v ∨ x = 0 ∧ ¬ vS s v) ∧ M = M') 0 [wI s, wI v] [] M := by
  unfold vS
  have hz : s = 0 ∨ s = 1 ∨ s = 2 ∨ s = 3 ∨ s = 4 ∨ s = 5 ∨ (s < 0 ∨ 5 < s) := by omega
  rcases hz with rfl | rfl | rfl | rfl | rfl | rfl | hz
  · refine R_iload_n (q := 1) (i := 0) rfl rfl rfl rfl ?_
    refine R_tblIn (q := 40) (off := 39) (tgt := 40) rfl rfl (by omega) (by omega) rfl (by decide) ?_
    refine R_iload_n (q := 41) (i := 1) rfl rfl rfl rfl ?_
    refine R_i2l (q := 42) rfl rfl (by omega) ?_
    refine R_lconst (q := 43) (v := 0) rfl rfl rfl ?_
    refine R_ldc2 (q := 46) rfl rfl rfl ?_
    refine R_cS3I (q := 49) (ci := 9) (C := C_X7_in) rfl rfl rfl rfl rfl ⟨_, _, _, rfl, (by first | trivial | assumption | omega)⟩ rfl rfl (fun x M' hc => ?_)
    replace hc := hc _ _ _ rfl
    try simp only [sh_mr, mr_mr] at hc
    obtain ⟨rfl, rfl⟩ := hc
    refine R_ret rfl (Or.inr ⟨rfl, (by split <;> omega)⟩) ?_
    exact ⟨by split <;> omega, rfl⟩
  · refine R_iload_n (q := 1) (i := 0) rfl rfl rfl rfl ?_
    refine R_tblIn (q := 40) (off := 49) (tgt := 50) rfl rfl (by omega) (by omega) rfl (by decide) ?_
    refine R_iload_n (q := 51) (i := 1) rfl rfl rfl rfl ?_
    refine R_i2l (q := 52) rfl rfl (by omega) ?_
    refine R_lconst (q := 53) (v := 0) rfl rfl rfl ?_
    refine R_ldc2 (q := 56) rfl rfl rfl ?_
    refine R_cS3I (q := 59) (ci := 9) (C := C_X7_in) rfl rfl rfl rfl rfl ⟨_, _, _, rfl, (by first | trivial | assumption | omega)⟩ rfl rfl (fun x M' hc => ?_)
    replace hc := hc _ _ _ rfl
    try simp only [sh_mr, mr_mr] at hc
    obtain ⟨rfl, rfl⟩ := hc
    refine R_ret rfl (Or.inr ⟨rfl, (by split <;> omega)⟩) ?_
    exact ⟨by split <;> omega, rfl⟩
  · refine R_iload_n (q := 1) (i := 0) rfl rfl rfl rfl ?_
    refine R_tblIn (q := 40) (off := 59) (tgt := 60) rfl rfl (by omega) (by omega) rfl (by decide) ?_
    refine R_iload_n (q := 61) (i := 1) rfl rfl rfl rfl ?_
    refine R_i2l (q := 62) rfl rfl (by omega) ?_
    refine R_lconst (q := 63) (v := 0) rfl rfl rfl ?_
    refine R_ldc2 (q := 66) rfl rfl rfl ?_
    refine R_cS3I (q := 69) (ci := 9) (C := C_X7_in) rfl rfl rfl rfl rfl ⟨_, _, _, rfl, (by first | trivial | assumption | omega)⟩ rfl rfl (fun x M' hc => ?_)
    replace hc := hc _ _ _ rfl
    try simp only [sh_mr, mr_mr] at hc
    obtain ⟨rfl, rfl⟩ := hc
    refine R_ret rfl (Or.inr ⟨rfl, (by split <;> omega)⟩) ?_
    exact ⟨by split <;> omega, rfl⟩
  · refine R_iload_n (q := 1) (i := 0) rfl rfl rfl rfl ?_
    refine R_tblIn (q := 40) (off := 69) (tgt := 70) rfl rfl (by omega) (by omega) rfl (by decide) ?_
    refine R_iload_n (q := 71) (i := 1) rfl rfl rfl rfl ?_
    refine R_i2l (q := 72) rfl rfl (by omega) ?_
    refine R_lconst (q := 73) (v := 0) rfl rfl rfl ?_
    refine R_ldc2 (q := 76) rfl rfl rfl ?_
    refine R_cS3I (q := 79) (ci := 9) (C := C_X7_in) rfl rfl rfl rfl rfl ⟨_, _, _, rfl, (by first | trivial | assumption | omega)⟩ rfl rfl (fun x M' hc => ?_)
    replace hc := hc _ _ _ rfl
    try simp only [sh_mr, mr_mr] at hc
    obtain ⟨rfl, rfl⟩ := hc
    refine R_ret rfl (Or.inr ⟨rfl, (by split <;> omega)⟩) ?_
    exact ⟨by split <;> omega, rfl⟩
  · refine R_iload_n (q := 1) (i := 0) rfl rfl rfl rfl ?_
    refine R_tblIn (q := 40) (off := 79) (tgt := 80) rfl rfl (by omega) (by omega) rfl (by decide) ?_
    refine R_iload_n (q := 81) (i := 1) rfl rfl rfl rfl ?_
    refine R_i2l (q := 82) rfl rfl (by omega) ?_
    refine R_lconst (q := 83) (v := 0) rfl rfl rfl ?_
    refine R_ldc2 (q := 86) rfl rfl rfl ?_
    refine R_cS3I (q := 89) (ci := 9) (C := C_X7_in) rfl rfl rfl rfl rfl ⟨_, _, _, rfl, (by first | trivial | assumption | omega)⟩ rfl rfl (fun x M' hc => ?_)
    replace hc := hc _ _ _ rfl
    try simp only [sh_mr, mr_mr] at hc
    obtain ⟨rfl, rfl⟩ := hc
    refine R_ret rfl (Or.inr ⟨rfl, (by split <;> omega)⟩) ?_
    exact ⟨by split <;> omega, rfl⟩
  · refine R_iload_n (q := 1) (i := 0) rfl rfl rfl rfl ?_
    refine R_tblIn (q := 40) (off := 89) (tgt := 90) rfl rfl (by omega) (by omega) rfl (by decide) ?_
    refine R_iload_n (q := 91) (i := 1) rfl rfl rfl rfl ?_
    refine R_i2l (q := 92) rfl rfl (by omega) ?_
    refine R_lconst (q := 93) (v := 1) rfl rfl rfl ?_
    refine R_ldc2 (q := 96) rfl rfl rfl ?_
    refine R_cS3I (q := 99) (ci := 9) (C := C_X7_in) rfl rfl rfl rfl rfl ⟨_, _, _, rfl, (by first | trivial | assumption | omega)⟩ rfl rfl (fun x M' hc => ?_)
    replace hc := hc _ _ _ rfl
    try simp only [sh_mr, mr_mr] at hc
    obtain ⟨rfl, rfl⟩ := hc
    refine R_ret rfl (Or.inr ⟨rfl, (by split <;> omega)⟩) ?_
    exact ⟨by split <;> omega, rfl⟩
  · refine R_iload_n (q := 1) (i := 0) rfl rfl rfl rfl ?_
    refine R_tblOut (q := 40) (tgt := 100) rfl rfl (by omega) (by omega) (by decide) ?_
    refine R_iconst (q := 101) rfl rfl ?_
    refine R_ret rfl (Or.inr ⟨rfl, (by first | exact Or.inl rfl | exact Or.inr rfl | omega)⟩) ?_
    exact ⟨by omega, rfl⟩
set_option maxRecDepth 100000 in
theorem mt_X7_isValue : MtOK yX7_isValue cX7_isValue 2 (some .boolean) 1 C_X7_isValue := by
  refine mt_of sx_X7_isValue (by decide +kernel) (Or.inr (Or.inl ⟨rfl, rfl, rfl⟩)) (by decide +kernel) fdX7_ok kLX7_ok kIX7_ok sgX7_ok ntX7_ok
    (all_cons (clokS mt_X7_in (GT_at 588 (by decide +kernel) (by decide +kernel)) (GT_at 44 (by decide +kernel) (by decide +kernel)) (GT_at 590 (by decide +kernel) (by decide +kernel)) (by decide +kernel) (by decide) (GT_at 589 (by decide +kernel) (by decide +kernel))) (all_nil)) ?_ ?_
  · rintro as M - ⟨s, v, rfl, hp⟩
    exact Nat.le_of_ble_eq_true rfl
  · rintro L scr as M - ⟨s, v, rfl, hp⟩
    exact Runs.mono (fun x M' h _ _ e => by cases e; exact h) (ok_X7_isValue L scr s v M hp)
/-- a change of one place of the row 0 -/
def Set1 (M M' : Mem) (x p v : Int) : Prop := M 12 p = x ∧ Chg M M' (us (M 12) p v) ∧ Fr M M' ∧ ∀ k, k ≠ 1 → M' 11 k = M 11 k
abbrev C_X7_set : Ct := (3, true, fun as M => ∃ (o : Nat) (s : Int) (v : Int), as = [wR o, wI s, wI v] ∧ (o = 11 ∧ inr s ∧ inr v ∧ 0 ≤ M 11 1 ∧ M 11 1 ≤ 4), fun as M x M' => ∀ (o : Nat) (s : Int) (v : Int), as = [wR o, wI s, wI v] → (vS s v ∧ Set1 M M' x s v ∨ ¬ vS s v ∧ x = -2 ∧ M = M'))
def sx_X7_set : Sx := (tb_X7_set, fdX7, kLX7, kIX7, sgX7, ntX7, [(117, (9, C_X7_isValue)), (121, (7, C_X7_sets))], 1)
set_option maxRecDepth 100000 in
set_option maxHeartbeats 1000000 in
theorem ok_X7_set (L : Nat) (scr : Int → Int) (o : Nat) (s : Int) (v : Int) (M : Mem) (hp : o = 11 ∧ inr s ∧ inr v ∧ 0 ≤ M 11 1 ∧ M 11 1 ≤ 4) : Runs sx_X7_set L (xcF scr) (fun x M' => vS s v ∧ Set1 M M' x s v ∨ ¬ vS s v ∧ x = -2 ∧ M = M') 0 [wR o, wI s, wI v] [] M := by
  obtain ⟨rfl, h1, h2, h3⟩ := hp
  refine R_iload_n (q := 1) (i := 1) rfl rfl rfl rfl ?_
  refine R_iload_n (q := 2) (i := 2) rfl rfl rfl rfl ?_
  refine R_cS2I (q := 5) (ci := 9) (C := C_X7_isValue) rfl rfl rfl rfl rfl ⟨_, _, rfl, ⟨h1, h2⟩⟩ rfl rfl (fun x M' hc => ?_)
  replace hc := hc _ _ rfl
  obtain ⟨hc, rfl⟩ := hc
  refine R_if_eq (q := 8) (tgt := 17) rfl rfl (by decide) (by omega) (fun h5 => ?_) (fun h5 => ?_)
  · have hv : ¬ vS s v := by
      rcases hc with ⟨z, w⟩ | ⟨z, w⟩
      · omega
      · exact w
    refine R_bipush (q := 19) rfl rfl (by decide) ?_
    refine R_ret rfl (Or.inl rfl) ?_
    first | exact Or.inl ⟨hv, hc⟩ | exact Or.inr ⟨hv, rfl, rfl⟩
  · have hv : vS s v := by
      rcases hc with ⟨z, w⟩ | ⟨z, w⟩
      · exact w
      · omega
    have hs : 0 ≤ s ∧ s < 6 := by unfold vS at hv; omega
    refine R_aload_n (q := 9) (i := 0) rfl rfl rfl rfl ?_
    refine R_iload_n (q := 10) (i := 1) rfl rfl rfl rfl ?_
    refine R_iload_n (q := 11) (i := 2) rfl rfl rfl rfl ?_
    refine R_cV2I (q := 14) (ci := 7) (C := C_X7_sets) rfl rfl rfl rfl rfl ⟨_, _, _, rfl, ⟨rfl, by omega, h3⟩⟩ rfl rfl (by omega) (fun x M' hc => ?_)
    replace hc := hc _ _ _ rfl
    skip
    refine R_goto (q := 17) (tgt := 19) rfl rfl (by decide) ?_
    refine R_ret rfl (Or.inl rfl) ?_
    first | exact Or.inl ⟨hv, hc⟩ | exact Or.inr ⟨hv, rfl, rfl⟩
set_option maxRecDepth 100000 in
theorem mt_X7_set : MtOK yX7_set cX7_set 3 (some .int) 3 C_X7_set := by
  refine mt_of sx_X7_set (by decide +kernel) (Or.inl ⟨rfl, rfl, rfl⟩) (by decide +kernel) fdX7_ok kLX7_ok kIX7_ok sgX7_ok ntX7_ok
    (all_cons (clokS mt_X7_isValue (GT_at 584 (by decide +kernel) (by decide +kernel)) (GT_at 44 (by decide +kernel) (by decide +kernel)) (GT_at 586 (by decide +kernel) (by decide +kernel)) (by decide +kernel) (by decide) (GT_at 585 (by decide +kernel) (by decide +kernel))) (all_cons (clokV mt_X7_sets rfl (GT_at 596 (by decide +kernel) (by decide +kernel)) (GT_at 44 (by decide +kernel) (by decide +kernel)) (GT_at 599 (by decide +kernel) (by decide +kernel)) (by decide +kernel) (by decide) (GT_at 598 (by decide +kernel) (by decide +kernel)) (GT_at 10 (by decide +kernel) (by decide +kernel)) rfl rfl) (all_nil))) ?_ ?_
  · rintro as M - ⟨o, s, v, rfl, hp⟩
    exact Nat.le_of_ble_eq_true rfl
  · rintro L scr as M - ⟨o, s, v, rfl, hp⟩
    exact Runs.mono (fun x M' h _ _ _ e => by cases e; exact h) (ok_X7_set L scr o s v M hp)
abbrev C_X7_weight : Ct := (3, true, fun as M => ∃ (o : Nat) (s : Int) (v : Int), as = [wR o, wI s, wI v] ∧ (o = 11 ∧ inr s ∧ inr v ∧ 0 ≤ M 11 1 ∧ M 11 1 ≤ 4), fun as M x M' => ∀ (o : Nat) (s : Int) (v : Int), as = [wR o, wI s, wI v] → ((0 ≤ s ∧ s < 6) ∧ (1 ≤ v ∧ v ≤ 9) ∧ Set1 M M' x (15 + s) v ∨ ¬ (0 ≤ s ∧ s < 6) ∧ x = -1 ∧ M = M' ∨ (0 ≤ s ∧ s < 6) ∧ ¬ (1 ≤ v ∧ v ≤ 9) ∧ x = -2 ∧ M = M'))
def sx_X7_weight : Sx := (tb_X7_weight, fdX7, kLX7, kIX7, sgX7, ntX7, [(124, (9, C_X7_isKind)), (92, (9, C_X7_in)), (121, (7, C_X7_sets))], 1)
set_option maxRecDepth 100000 in
set_option maxHeartbeats 1000000 in
theorem ok_X7_weight (L : Nat) (scr : Int → Int) (o : Nat) (s : Int) (v : Int) (M : Mem) (hp : o = 11 ∧ inr s ∧ inr v ∧ 0 ≤ M 11 1 ∧ M 11 1 ≤ 4) : Runs sx_X7_weight L (xcF scr) (fun x M' => (0 ≤ s ∧ s < 6) ∧ (1 ≤ v ∧ v ≤ 9) ∧ Set1 M M' x (15 + s) v ∨ ¬ (0 ≤ s ∧ s < 6) ∧ x = -1 ∧ M = M' ∨ (0 ≤ s ∧ s < 6) ∧ ¬ (1 ≤ v ∧ v ≤ 9) ∧ x = -2 ∧ M = M') 0 [wR o, wI s, wI v] [] M := by
  obtain ⟨rfl, h1, h2, h3⟩ := hp
  refine R_iload_n (q := 1) (i := 1) rfl rfl rfl rfl ?_
  refine R_cS1I (q := 4) (ci := 9) (C := C_X7_isKind) rfl rfl rfl rfl rfl ⟨_, rfl, (by first | trivial | assumption | omega)⟩ rfl rfl (fun x M' hc => ?_)
  replace hc := hc _ rfl
  try simp only [sh_mr, mr_mr] at hc
  obtain ⟨rfl, rfl⟩ := hc
  refine R_if_ne (q := 7) (tgt := 11) rfl rfl (by decide) (by split <;> omega) (fun h4 => ?_) (fun h4 => ?_)
  · have hs : 0 ≤ s ∧ s < 6 := by
      by_cases z : 0 ≤ s ∧ s < 6
      · exact z
      · rw [if_neg z] at h4
        omega
    refine R_iload_n (q := 12) (i := 2) rfl rfl rfl rfl ?_
    refine R_i2l (q := 13) rfl rfl (by omega) ?_
    refine R_lconst (q := 14) (v := 1) rfl rfl rfl ?_
    refine R_ldc2 (q := 17) rfl rfl rfl ?_
    refine R_cS3I (q := 20) (ci := 9) (C := C_X7_in) rfl rfl rfl rfl rfl ⟨_, _, _, rfl, (by first | trivial | assumption | omega)⟩ rfl rfl (fun x M' hc => ?_)
    replace hc := hc _ _ _ rfl
    try simp only [sh_mr, mr_mr] at hc
    obtain ⟨rfl, rfl⟩ := hc
    refine R_if_eq (q := 23) (tgt := 35) rfl rfl (by decide) (by split <;> omega) (fun h20 => ?_) (fun h20 => ?_)
    · have hv : ¬ (1 ≤ v ∧ v ≤ 9) := fun z => by
        rw [if_pos z] at h20
        omega
      refine R_bipush (q := 37) rfl rfl (by decide) ?_
      refine R_ret rfl (Or.inl rfl) ?_
      first | exact Or.inl ⟨hs, hv, hc⟩ | exact Or.inr (Or.inl ⟨hs, rfl, rfl⟩) | exact Or.inr (Or.inr ⟨hs, hv, rfl, rfl⟩)
    · have hv : 1 ≤ v ∧ v ≤ 9 := by
        by_cases z : 1 ≤ v ∧ v ≤ 9
        · exact z
        · rw [if_neg z] at h20
          omega
      refine R_aload_n (q := 24) (i := 0) rfl rfl rfl rfl ?_
      refine R_bipush (q := 26) rfl rfl (by decide) ?_
      refine R_iload_n (q := 27) (i := 1) rfl rfl rfl rfl ?_
      refine R_iadd (q := 28) rfl rfl ?_
      refine R_iload_n (q := 29) (i := 2) rfl rfl rfl rfl ?_
      refine R_cV2I (q := 32) (ci := 7) (C := C_X7_sets) rfl rfl rfl rfl rfl ⟨_, _, _, rfl, ⟨rfl, by omega, h3⟩⟩ rfl rfl (by omega) (fun x M' hc => ?_)
      replace hc := hc _ _ _ rfl
      skip
      refine R_goto (q := 35) (tgt := 37) rfl rfl (by decide) ?_
      refine R_ret rfl (Or.inl rfl) ?_
      first | exact Or.inl ⟨hs, hv, hc⟩ | exact Or.inr (Or.inl ⟨hs, rfl, rfl⟩) | exact Or.inr (Or.inr ⟨hs, hv, rfl, rfl⟩)
  · have hs : ¬ (0 ≤ s ∧ s < 6) := fun z => by
      rw [if_pos z] at h4
      omega
    refine R_iconst (q := 8) rfl rfl ?_
    refine R_goto (q := 11) (tgt := 37) rfl rfl (by decide) ?_
    refine R_ret rfl (Or.inl rfl) ?_
    first | exact Or.inl ⟨hs, hv, hc⟩ | exact Or.inr (Or.inl ⟨hs, rfl, rfl⟩) | exact Or.inr (Or.inr ⟨hs, hv, rfl, rfl⟩)
set_option maxRecDepth 100000 in
theorem mt_X7_weight : MtOK yX7_weight cX7_weight 3 (some .int) 3 C_X7_weight := by
  refine mt_of sx_X7_weight (by decide +kernel) (Or.inl ⟨rfl, rfl, rfl⟩) (by decide +kernel) fdX7_ok kLX7_ok kIX7_ok sgX7_ok ntX7_ok
    (all_cons (clokS mt_X7_isKind (GT_at 612 (by decide +kernel) (by decide +kernel)) (GT_at 44 (by decide +kernel) (by decide +kernel)) (GT_at 614 (by decide +kernel) (by decide +kernel)) (by decide +kernel) (by decide) (GT_at 613 (by decide +kernel) (by decide +kernel))) (all_cons (clokS mt_X7_in (GT_at 588 (by decide +kernel) (by decide +kernel)) (GT_at 44 (by decide +kernel) (by decide +kernel)) (GT_at 590 (by decide +kernel) (by decide +kernel)) (by decide +kernel) (by decide) (GT_at 589 (by decide +kernel) (by decide +kernel))) (all_cons (clokV mt_X7_sets rfl (GT_at 596 (by decide +kernel) (by decide +kernel)) (GT_at 44 (by decide +kernel) (by decide +kernel)) (GT_at 599 (by decide +kernel) (by decide +kernel)) (by decide +kernel) (by decide) (GT_at 598 (by decide +kernel) (by decide +kernel)) (GT_at 10 (by decide +kernel) (by decide +kernel)) rfl rfl) (all_nil)))) ?_ ?_
  · rintro as M - ⟨o, s, v, rfl, hp⟩
    exact Nat.le_of_ble_eq_true rfl
  · rintro L scr as M - ⟨o, s, v, rfl, hp⟩
    exact Runs.mono (fun x M' h _ _ _ e => by cases e; exact h) (ok_X7_weight L scr o s v M hp)
abbrev C_X7_trust : Ct := (3, true, fun as M => ∃ (o : Nat) (s : Int) (v : Int), as = [wR o, wI s, wI v] ∧ (o = 11 ∧ inr s ∧ inr v ∧ 0 ≤ M 11 1 ∧ M 11 1 ≤ 4), fun as M x M' => ∀ (o : Nat) (s : Int) (v : Int), as = [wR o, wI s, wI v] → ((0 ≤ s ∧ s < 5) ∧ (0 ≤ v ∧ v ≤ 9) ∧ Set1 M M' x (21 + s) v ∨ ¬ (0 ≤ s ∧ s < 5) ∧ x = -1 ∧ M = M' ∨ (0 ≤ s ∧ s < 5) ∧ ¬ (0 ≤ v ∧ v ≤ 9) ∧ x = -2 ∧ M = M'))
def sx_X7_trust : Sx := (tb_X7_trust, fdX7, kLX7, kIX7, sgX7, ntX7, [(92, (9, C_X7_in)), (121, (7, C_X7_sets))], 1)
set_option maxRecDepth 100000 in
set_option maxHeartbeats 1000000 in
theorem ok_X7_trust (L : Nat) (scr : Int → Int) (o : Nat) (s : Int) (v : Int) (M : Mem) (hp : o = 11 ∧ inr s ∧ inr v ∧ 0 ≤ M 11 1 ∧ M 11 1 ≤ 4) : Runs sx_X7_trust L (xcF scr) (fun x M' => (0 ≤ s ∧ s < 5) ∧ (0 ≤ v ∧ v ≤ 9) ∧ Set1 M M' x (21 + s) v ∨ ¬ (0 ≤ s ∧ s < 5) ∧ x = -1 ∧ M = M' ∨ (0 ≤ s ∧ s < 5) ∧ ¬ (0 ≤ v ∧ v ≤ 9) ∧ x = -2 ∧ M = M') 0 [wR o, wI s, wI v] [] M := by
  obtain ⟨rfl, h1, h2, h3⟩ := hp
  refine R_iload_n (q := 1) (i := 1) rfl rfl rfl rfl ?_
  refine R_i2l (q := 2) rfl rfl (by omega) ?_
  refine R_lconst (q := 3) (v := 0) rfl rfl rfl ?_
  refine R_ldc2 (q := 6) rfl rfl rfl ?_
  refine R_cS3I (q := 9) (ci := 9) (C := C_X7_in) rfl rfl rfl rfl rfl ⟨_, _, _, rfl, (by first | trivial | assumption | omega)⟩ rfl rfl (fun x M' hc => ?_)
  replace hc := hc _ _ _ rfl
  try simp only [sh_mr, mr_mr] at hc
  obtain ⟨rfl, rfl⟩ := hc
  refine R_if_ne (q := 12) (tgt := 16) rfl rfl (by decide) (by split <;> omega) (fun h9 => ?_) (fun h9 => ?_)
  · have hs : 0 ≤ s ∧ s < 5 := by
      by_cases z : 0 ≤ s ∧ s ≤ 4
      · omega
      · rw [if_neg z] at h9
        omega
    refine R_iload_n (q := 17) (i := 2) rfl rfl rfl rfl ?_
    refine R_i2l (q := 18) rfl rfl (by omega) ?_
    refine R_lconst (q := 19) (v := 0) rfl rfl rfl ?_
    refine R_ldc2 (q := 22) rfl rfl rfl ?_
    refine R_cS3I (q := 25) (ci := 9) (C := C_X7_in) rfl rfl rfl rfl rfl ⟨_, _, _, rfl, (by first | trivial | assumption | omega)⟩ rfl rfl (fun x M' hc => ?_)
    replace hc := hc _ _ _ rfl
    try simp only [sh_mr, mr_mr] at hc
    obtain ⟨rfl, rfl⟩ := hc
    refine R_if_eq (q := 28) (tgt := 40) rfl rfl (by decide) (by split <;> omega) (fun h25 => ?_) (fun h25 => ?_)
    · have hv : ¬ (0 ≤ v ∧ v ≤ 9) := fun z => by
        rw [if_pos z] at h25
        omega
      refine R_bipush (q := 42) rfl rfl (by decide) ?_
      refine R_ret rfl (Or.inl rfl) ?_
      first | exact Or.inl ⟨hs, hv, hc⟩ | exact Or.inr (Or.inl ⟨hs, rfl, rfl⟩) | exact Or.inr (Or.inr ⟨hs, hv, rfl, rfl⟩)
    · have hv : 0 ≤ v ∧ v ≤ 9 := by
        by_cases z : 0 ≤ v ∧ v ≤ 9
        · exact z
        · rw [if_neg z] at h25
          omega
      refine R_aload_n (q := 29) (i := 0) rfl rfl rfl rfl ?_
      refine R_bipush (q := 31) rfl rfl (by decide) ?_
      refine R_iload_n (q := 32) (i := 1) rfl rfl rfl rfl ?_
      refine R_iadd (q := 33) rfl rfl ?_
      refine R_iload_n (q := 34) (i := 2) rfl rfl rfl rfl ?_
      refine R_cV2I (q := 37) (ci := 7) (C := C_X7_sets) rfl rfl rfl rfl rfl ⟨_, _, _, rfl, ⟨rfl, by omega, h3⟩⟩ rfl rfl (by omega) (fun x M' hc => ?_)
      replace hc := hc _ _ _ rfl
      skip
      refine R_goto (q := 40) (tgt := 42) rfl rfl (by decide) ?_
      refine R_ret rfl (Or.inl rfl) ?_
      first | exact Or.inl ⟨hs, hv, hc⟩ | exact Or.inr (Or.inl ⟨hs, rfl, rfl⟩) | exact Or.inr (Or.inr ⟨hs, hv, rfl, rfl⟩)
  · have hs : ¬ (0 ≤ s ∧ s < 5) := fun z => by
      rw [if_pos (by omega)] at h9
      omega
    refine R_iconst (q := 13) rfl rfl ?_
    refine R_goto (q := 16) (tgt := 42) rfl rfl (by decide) ?_
    refine R_ret rfl (Or.inl rfl) ?_
    first | exact Or.inl ⟨hs, hv, hc⟩ | exact Or.inr (Or.inl ⟨hs, rfl, rfl⟩) | exact Or.inr (Or.inr ⟨hs, hv, rfl, rfl⟩)
set_option maxRecDepth 100000 in
theorem mt_X7_trust : MtOK yX7_trust cX7_trust 3 (some .int) 3 C_X7_trust := by
  refine mt_of sx_X7_trust (by decide +kernel) (Or.inl ⟨rfl, rfl, rfl⟩) (by decide +kernel) fdX7_ok kLX7_ok kIX7_ok sgX7_ok ntX7_ok
    (all_cons (clokS mt_X7_in (GT_at 588 (by decide +kernel) (by decide +kernel)) (GT_at 44 (by decide +kernel) (by decide +kernel)) (GT_at 590 (by decide +kernel) (by decide +kernel)) (by decide +kernel) (by decide) (GT_at 589 (by decide +kernel) (by decide +kernel))) (all_cons (clokV mt_X7_sets rfl (GT_at 596 (by decide +kernel) (by decide +kernel)) (GT_at 44 (by decide +kernel) (by decide +kernel)) (GT_at 599 (by decide +kernel) (by decide +kernel)) (by decide +kernel) (by decide) (GT_at 598 (by decide +kernel) (by decide +kernel)) (GT_at 10 (by decide +kernel) (by decide +kernel)) rfl rfl) (all_nil))) ?_ ?_
  · rintro as M - ⟨o, s, v, rfl, hp⟩
    exact Nat.le_of_ble_eq_true rfl
  · rintro L scr as M - ⟨o, s, v, rfl, hp⟩
    exact Runs.mono (fun x M' h _ _ _ e => by cases e; exact h) (ok_X7_trust L scr o s v M hp)
abbrev C_X7_hands : Ct := (3, true, fun as M => ∃ (o : Nat) (s : Int) (v : Int), as = [wR o, wI s, wI v] ∧ (o = 11 ∧ inr s ∧ inr v ∧ 0 ≤ M 11 1 ∧ M 11 1 ≤ 4), fun as M x M' => ∀ (o : Nat) (s : Int) (v : Int), as = [wR o, wI s, wI v] → ((0 ≤ s ∧ s < 3) ∧ (0 ≤ v ∧ v ≤ 3) ∧ Set1 M M' x (26 + 4 * s) v ∨ ¬ (0 ≤ s ∧ s < 3) ∧ x = -1 ∧ M = M' ∨ (0 ≤ s ∧ s < 3) ∧ ¬ (0 ≤ v ∧ v ≤ 3) ∧ x = -2 ∧ M = M'))
def sx_X7_hands : Sx := (tb_X7_hands, fdX7, kLX7, kIX7, sgX7, ntX7, [(127, (9, C_X7_isDesk)), (92, (9, C_X7_in)), (20, (9, C_X7_deskAt)), (121, (7, C_X7_sets))], 1)
set_option maxRecDepth 100000 in
set_option maxHeartbeats 1000000 in
theorem ok_X7_hands (L : Nat) (scr : Int → Int) (o : Nat) (s : Int) (v : Int) (M : Mem) (hp : o = 11 ∧ inr s ∧ inr v ∧ 0 ≤ M 11 1 ∧ M 11 1 ≤ 4) : Runs sx_X7_hands L (xcF scr) (fun x M' => (0 ≤ s ∧ s < 3) ∧ (0 ≤ v ∧ v ≤ 3) ∧ Set1 M M' x (26 + 4 * s) v ∨ ¬ (0 ≤ s ∧ s < 3) ∧ x = -1 ∧ M = M' ∨ (0 ≤ s ∧ s < 3) ∧ ¬ (0 ≤ v ∧ v ≤ 3) ∧ x = -2 ∧ M = M') 0 [wR o, wI s, wI v] [] M := by
  obtain ⟨rfl, h1, h2, h3⟩ := hp
  refine R_iload_n (q := 1) (i := 1) rfl rfl rfl rfl ?_
  refine R_cS1I (q := 4) (ci := 9) (C := C_X7_isDesk) rfl rfl rfl rfl rfl ⟨_, rfl, (by first | trivial | assumption | omega)⟩ rfl rfl (fun x M' hc => ?_)
  replace hc := hc _ rfl
  try simp only [sh_mr, mr_mr] at hc
  obtain ⟨rfl, rfl⟩ := hc
  refine R_if_ne (q := 7) (tgt := 11) rfl rfl (by decide) (by split <;> omega) (fun h4 => ?_) (fun h4 => ?_)
  · have hs : 0 ≤ s ∧ s < 3 := by
      by_cases z : 0 ≤ s ∧ s < 3
      · exact z
      · rw [if_neg z] at h4
        omega
    refine R_iload_n (q := 12) (i := 2) rfl rfl rfl rfl ?_
    refine R_i2l (q := 13) rfl rfl (by omega) ?_
    refine R_lconst (q := 14) (v := 0) rfl rfl rfl ?_
    refine R_ldc2 (q := 17) rfl rfl rfl ?_
    refine R_cS3I (q := 20) (ci := 9) (C := C_X7_in) rfl rfl rfl rfl rfl ⟨_, _, _, rfl, (by first | trivial | assumption | omega)⟩ rfl rfl (fun x M' hc => ?_)
    replace hc := hc _ _ _ rfl
    try simp only [sh_mr, mr_mr] at hc
    obtain ⟨rfl, rfl⟩ := hc
    refine R_if_eq (q := 23) (tgt := 36) rfl rfl (by decide) (by split <;> omega) (fun h20 => ?_) (fun h20 => ?_)
    · have hv : ¬ (0 ≤ v ∧ v ≤ 3) := fun z => by
        rw [if_pos z] at h20
        omega
      refine R_bipush (q := 38) rfl rfl (by decide) ?_
      refine R_ret rfl (Or.inl rfl) ?_
      first | exact Or.inl ⟨hs, hv, hc⟩ | exact Or.inr (Or.inl ⟨hs, rfl, rfl⟩) | exact Or.inr (Or.inr ⟨hs, hv, rfl, rfl⟩)
    · have hv : 0 ≤ v ∧ v ≤ 3 := by
        by_cases z : 0 ≤ v ∧ v ≤ 3
        · exact z
        · rw [if_neg z] at h20
          omega
      refine R_aload_n (q := 24) (i := 0) rfl rfl rfl rfl ?_
      refine R_iconst (q := 25) rfl rfl ?_
      refine R_iload_n (q := 26) (i := 1) rfl rfl rfl rfl ?_
      refine R_cS2I (q := 29) (ci := 9) (C := C_X7_deskAt) rfl rfl rfl rfl rfl ⟨_, _, rfl, (by first | trivial | assumption | omega)⟩ rfl rfl (fun x M' hc => ?_)
      replace hc := hc _ _ rfl
      try simp only [sh_mr, mr_mr] at hc
      obtain ⟨rfl, rfl⟩ := hc
      refine R_iload_n (q := 30) (i := 2) rfl rfl rfl rfl ?_
      refine R_cV2I (q := 33) (ci := 7) (C := C_X7_sets) rfl rfl rfl rfl rfl ⟨_, _, _, rfl, ⟨rfl, by omega, h3⟩⟩ rfl rfl (by omega) (fun x M' hc => ?_)
      replace hc := hc _ _ _ rfl
      rw [show (0 : Int) + 26 + 4 * s = 26 + 4 * s by omega] at hc
      refine R_goto (q := 36) (tgt := 38) rfl rfl (by decide) ?_
      refine R_ret rfl (Or.inl rfl) ?_
      first | exact Or.inl ⟨hs, hv, hc⟩ | exact Or.inr (Or.inl ⟨hs, rfl, rfl⟩) | exact Or.inr (Or.inr ⟨hs, hv, rfl, rfl⟩)
  · have hs : ¬ (0 ≤ s ∧ s < 3) := fun z => by
      rw [if_pos z] at h4
      omega
    refine R_iconst (q := 8) rfl rfl ?_
    refine R_goto (q := 11) (tgt := 38) rfl rfl (by decide) ?_
    refine R_ret rfl (Or.inl rfl) ?_
    first | exact Or.inl ⟨hs, hv, hc⟩ | exact Or.inr (Or.inl ⟨hs, rfl, rfl⟩) | exact Or.inr (Or.inr ⟨hs, hv, rfl, rfl⟩)
set_option maxRecDepth 100000 in
theorem mt_X7_hands : MtOK yX7_hands cX7_hands 3 (some .int) 3 C_X7_hands := by
  refine mt_of sx_X7_hands (by decide +kernel) (Or.inl ⟨rfl, rfl, rfl⟩) (by decide +kernel) fdX7_ok kLX7_ok kIX7_ok sgX7_ok ntX7_ok
    (all_cons (clokS mt_X7_isDesk (GT_at 624 (by decide +kernel) (by decide +kernel)) (GT_at 44 (by decide +kernel) (by decide +kernel)) (GT_at 626 (by decide +kernel) (by decide +kernel)) (by decide +kernel) (by decide) (GT_at 625 (by decide +kernel) (by decide +kernel))) (all_cons (clokS mt_X7_in (GT_at 588 (by decide +kernel) (by decide +kernel)) (GT_at 44 (by decide +kernel) (by decide +kernel)) (GT_at 590 (by decide +kernel) (by decide +kernel)) (by decide +kernel) (by decide) (GT_at 589 (by decide +kernel) (by decide +kernel))) (all_cons (clokS mt_X7_deskAt (GT_at 555 (by decide +kernel) (by decide +kernel)) (GT_at 44 (by decide +kernel) (by decide +kernel)) (GT_at 557 (by decide +kernel) (by decide +kernel)) (by decide +kernel) (by decide) (GT_at 556 (by decide +kernel) (by decide +kernel))) (all_cons (clokV mt_X7_sets rfl (GT_at 596 (by decide +kernel) (by decide +kernel)) (GT_at 44 (by decide +kernel) (by decide +kernel)) (GT_at 599 (by decide +kernel) (by decide +kernel)) (by decide +kernel) (by decide) (GT_at 598 (by decide +kernel) (by decide +kernel)) (GT_at 10 (by decide +kernel) (by decide +kernel)) rfl rfl) (all_nil))))) ?_ ?_
  · rintro as M - ⟨o, s, v, rfl, hp⟩
    exact Nat.le_of_ble_eq_true rfl
  · rintro L scr as M - ⟨o, s, v, rfl, hp⟩
    exact Runs.mono (fun x M' h _ _ _ e => by cases e; exact h) (ok_X7_hands L scr o s v M hp)
