/-! THE LAW'S print: one number of all that is told -/
def prL (v : Nat → Int) (h : Int) : Nat → Int
  | 0 => h
  | n + 1 => 31 * prL v h n + i32 (v n)
def pr1 (f : Int → Int) (n : Nat) : Int := cnV (fun _ _ => 0) f (n : Int)
def pr2 (f : Int → Int) (n : Nat) : Int := dkV f (i32div (n : Int) 5) (i32rem (n : Int) 5)
def pr3 (f : Int → Int) (n : Nat) : Int := trV f (i32div (n : Int) 10) (i32rem (n : Int) 10)
def pr4 (f : Int → Int) (n : Nat) : Int := dig (f (87 + 9 * i32div (n : Int) 12 + i32rem (n : Int) 2)) (i32div (i32rem (n : Int) 12) 2)
def prA (f : Int → Int) : Int := prL (pr1 f) 13 17
def prB (f : Int → Int) : Int := prL (pr2 f) (prA f) 15
def prC (f : Int → Int) : Int := prL (pr3 f) (prB f) (10 * f 7).toNat
def prV (f : Int → Int) : Int := prL (pr4 f) (prC f) (12 * f 7).toNat
theorem cnV_w {M M2 : Mem} {f : Int → Int} {w : Int} (h : w < 17) : cnV M f w = cnV M2 f w := by
  unfold cnV
  simp only [if_neg (show ¬ w = 17 by omega), if_neg (show ¬ w = 18 by omega)]
abbrev C_L_print : Ct2 := (1, true, 0, fun as M => ∃ (o : Nat), as = [wR o] ∧ (o = 3 ∧ GI M), fun as M x M' => ∀ (o : Nat), as = [wR o] → (x = prV (M 12) ∧ Sme M M'))
def sx_L_print : Sx2 := (tb_L_print, kLL, kIL, [(62, D_count), (78, D_desk), (65, D_trunk), (68, D_pieces)], [], 3)
set_option maxRecDepth 100000 in
set_option maxHeartbeats 2000000 in
theorem ok_L_print (L : Nat) (scr : Int → Int) (hL : L < 2147483648) (o : Nat) (M : Mem) (hp : o = 3 ∧ GI M) : Run2 sx_L_print L (xcF scr) false 0 (fun x M' => x = prV (M 12) ∧ Sme M M') 0 0 [wR o, none, none, none] [] M := by
  obtain ⟨rfl, g⟩ := hp
  have i7 := g.2.1.1.i7
  have L4 : ∀ (n k : Nat) (M1 : Mem), k + n = (12 * M 12 7).toNat → Sme M M1 → Run2 sx_L_print L (xcF scr) false 0 (fun x M' => x = prV (M 12) ∧ Sme M M') 0 106 [wR 3, wL (prL (pr4 (M 12)) (prC (M 12)) k), none, wI (k : Int)] [] M1 := by
    intro n
    induction n with
    | zero =>
      intro k M1 hk s
      refine T_iload_n (q := 107) (i := 3) rfl rfl rfl rfl rfl ?_
      refine T_bipush (q := 109) rfl rfl rfl (by decide) ?_
      refine T_aload_n (q := 110) (i := 0) rfl rfl rfl rfl rfl ?_
      refine T_bipush (q := 112) rfl rfl rfl (by decide) ?_
      refine O_count (q := 115) s rfl rfl rfl rfl (by decide) (cnV_7 _ _) rfl (fun M' s => ?_)
      refine T_imul (q := 116) rfl rfl rfl ?_
      refine T_icmp_ge (q := 119) (tgt := 150) rfl rfl rfl (by decide) (by omega) (by omega) (fun h116 => ?_) (fun h116 => ?_)
      · refine T_lload_n (q := 151) (i := 1) rfl rfl rfl rfl rfl ?_
        refine T_lret rfl rfl rfl ?_
        exact ⟨by rw [show k = (12 * M 12 7).toNat by omega]; rfl, s⟩
      · omega
    | succ n ih =>
      intro k M1 hk s
      have ks : ((k + 1 : Nat) : Int) = (k : Int) + 1 := by omega
      have d1 := i32div_of (x := (k : Int)) (y := 12) (by omega) (by omega) (by omega) (by omega)
      have d2 := i32rem_of (x := (k : Int)) (y := 2) (by omega) (by omega) (by omega) (by omega)
      have d3 := i32rem_of (x := (k : Int)) (y := 12) (by omega) (by omega) (by omega) (by omega)
      have d4 := i32div_of (x := i32rem (k : Int) 12) (y := 2) (by omega) (by omega) (by omega) (by omega)
      refine T_iload_n (q := 107) (i := 3) rfl rfl rfl rfl rfl ?_
      refine T_bipush (q := 109) rfl rfl rfl (by decide) ?_
      refine T_aload_n (q := 110) (i := 0) rfl rfl rfl rfl rfl ?_
      refine T_bipush (q := 112) rfl rfl rfl (by decide) ?_
      refine O_count (q := 115) s rfl rfl rfl rfl (by decide) (cnV_7 _ _) rfl (fun M' s => ?_)
      refine T_imul (q := 116) rfl rfl rfl ?_
      refine T_icmp_ge (q := 119) (tgt := 150) rfl rfl rfl (by decide) (by omega) (by omega) (fun h116 => ?_) (fun h116 => ?_)
      · omega
      · refine T_ldc2 (q := 122) rfl rfl rfl rfl ?_
        refine T_lload_n (q := 123) (i := 1) rfl rfl rfl rfl rfl ?_
        refine T_lmul (q := 124) rfl rfl rfl ?_
        refine T_aload_n (q := 125) (i := 0) rfl rfl rfl rfl rfl ?_
        refine T_iload_n (q := 126) (i := 3) rfl rfl rfl rfl rfl ?_
        refine T_bipush (q := 128) rfl rfl rfl (by decide) ?_
        refine T_idiv (q := 129) rfl rfl rfl (by decide) ?_
        refine T_iload_n (q := 130) (i := 3) rfl rfl rfl rfl rfl ?_
        refine T_iconst (q := 131) rfl rfl rfl ?_
        refine T_irem (q := 132) rfl rfl rfl (by decide) ?_
        refine T_iload_n (q := 133) (i := 3) rfl rfl rfl rfl rfl ?_
        refine T_bipush (q := 135) rfl rfl rfl (by decide) ?_
        refine T_irem (q := 136) rfl rfl rfl (by decide) ?_
        refine T_iconst (q := 137) rfl rfl rfl ?_
        refine T_idiv (q := 138) rfl rfl rfl (by decide) ?_
        refine O_pieces (q := 141) s rfl rfl rfl rfl ⟨by unfold hasT; omega, by omega, by omega⟩ rfl rfl (fun M' s => ?_)
        refine T_i2l (q := 142) rfl rfl rfl ?_
        refine T_ladd (q := 143) rfl rfl rfl ?_
        refine T_lstore_n (q := 144) (i := 1) rfl rfl rfl rfl rfl rfl ?_
        refine T_iinc (q := 147) rfl rfl rfl rfl rfl ?_
        refine T_goto (q := 150) (tgt := 106) rfl rfl rfl (by decide) ?_
        have := ih (k + 1) _ (by omega) s
        rw [ks] at this
        exact this
  have L3 : ∀ (n k : Nat) (M1 : Mem), k + n = (10 * M 12 7).toNat → Sme M M1 → Run2 sx_L_print L (xcF scr) false 0 (fun x M' => x = prV (M 12) ∧ Sme M M') 0 65 [wR 3, wL (prL (pr3 (M 12)) (prB (M 12)) k), none, wI (k : Int)] [] M1 := by
    intro n
    induction n with
    | zero =>
      intro k M1 hk s
      refine T_iload_n (q := 66) (i := 3) rfl rfl rfl rfl rfl ?_
      refine T_bipush (q := 68) rfl rfl rfl (by decide) ?_
      refine T_aload_n (q := 69) (i := 0) rfl rfl rfl rfl rfl ?_
      refine T_bipush (q := 71) rfl rfl rfl (by decide) ?_
      refine O_count (q := 74) s rfl rfl rfl rfl (by decide) (cnV_7 _ _) rfl (fun M' s => ?_)
      refine T_imul (q := 75) rfl rfl rfl ?_
      refine T_icmp_ge (q := 78) (tgt := 104) rfl rfl rfl (by decide) (by omega) (by omega) (fun h75 => ?_) (fun h75 => ?_)
      · refine T_iconst (q := 105) rfl rfl rfl ?_
        refine T_istore_n (q := 106) (i := 3) rfl rfl rfl rfl rfl ?_
        have := L4 _ 0 _ (Nat.zero_add _) s
        rw [show prC (M 12) = prL (pr3 (M 12)) (prB (M 12)) k by rw [show k = (10 * M 12 7).toNat by omega]; rfl] at this
        exact this
      · omega
    | succ n ih =>
      intro k M1 hk s
      have ks : ((k + 1 : Nat) : Int) = (k : Int) + 1 := by omega
      have d1 := i32div_of (x := (k : Int)) (y := 10) (by omega) (by omega) (by omega) (by omega)
      have d2 := i32rem_of (x := (k : Int)) (y := 10) (by omega) (by omega) (by omega) (by omega)
      refine T_iload_n (q := 66) (i := 3) rfl rfl rfl rfl rfl ?_
      refine T_bipush (q := 68) rfl rfl rfl (by decide) ?_
      refine T_aload_n (q := 69) (i := 0) rfl rfl rfl rfl rfl ?_
      refine T_bipush (q := 71) rfl rfl rfl (by decide) ?_
      refine O_count (q := 74) s rfl rfl rfl rfl (by decide) (cnV_7 _ _) rfl (fun M' s => ?_)
      refine T_imul (q := 75) rfl rfl rfl ?_
      refine T_icmp_ge (q := 78) (tgt := 104) rfl rfl rfl (by decide) (by omega) (by omega) (fun h75 => ?_) (fun h75 => ?_)
      · omega
      · refine T_ldc2 (q := 81) rfl rfl rfl rfl ?_
        refine T_lload_n (q := 82) (i := 1) rfl rfl rfl rfl rfl ?_
        refine T_lmul (q := 83) rfl rfl rfl ?_
        refine T_aload_n (q := 84) (i := 0) rfl rfl rfl rfl rfl ?_
        refine T_iload_n (q := 85) (i := 3) rfl rfl rfl rfl rfl ?_
        refine T_bipush (q := 87) rfl rfl rfl (by decide) ?_
        refine T_idiv (q := 88) rfl rfl rfl (by decide) ?_
        refine T_iload_n (q := 89) (i := 3) rfl rfl rfl rfl rfl ?_
        refine T_bipush (q := 91) rfl rfl rfl (by decide) ?_
        refine T_irem (q := 92) rfl rfl rfl (by decide) ?_
        refine O_trunk (q := 95) s rfl rfl rfl rfl ⟨by unfold hasT; omega, by omega, by omega⟩ rfl rfl (fun M' s => ?_)
        refine T_i2l (q := 96) rfl rfl rfl ?_
        refine T_ladd (q := 97) rfl rfl rfl ?_
        refine T_lstore_n (q := 98) (i := 1) rfl rfl rfl rfl rfl rfl ?_
        refine T_iinc (q := 101) rfl rfl rfl rfl rfl ?_
        refine T_goto (q := 104) (tgt := 65) rfl rfl rfl (by decide) ?_
        have := ih (k + 1) _ (by omega) s
        rw [ks] at this
        exact this
  have L2 : ∀ (n k : Nat) (M1 : Mem), k + n = 15 → Sme M M1 → Run2 sx_L_print L (xcF scr) false 0 (fun x M' => x = prV (M 12) ∧ Sme M M') 0 33 [wR 3, wL (prL (pr2 (M 12)) (prA (M 12)) k), none, wI (k : Int)] [] M1 := by
    intro n
    induction n with
    | zero =>
      intro k M1 hk s
      refine T_iload_n (q := 34) (i := 3) rfl rfl rfl rfl rfl ?_
      refine T_bipush (q := 36) rfl rfl rfl (by decide) ?_
      refine T_icmp_ge (q := 39) (tgt := 63) rfl rfl rfl (by decide) (by omega) (by omega) (fun h36 => ?_) (fun h36 => ?_)
      · refine T_iconst (q := 64) rfl rfl rfl ?_
        refine T_istore_n (q := 65) (i := 3) rfl rfl rfl rfl rfl ?_
        have := L3 _ 0 _ (Nat.zero_add _) s
        rw [show prB (M 12) = prL (pr2 (M 12)) (prA (M 12)) k by rw [show k = 15 by omega]; rfl] at this
        exact this
      · omega
    | succ n ih =>
      intro k M1 hk s
      have ks : ((k + 1 : Nat) : Int) = (k : Int) + 1 := by omega
      have d1 := i32div_of (x := (k : Int)) (y := 5) (by omega) (by omega) (by omega) (by omega)
      have d2 := i32rem_of (x := (k : Int)) (y := 5) (by omega) (by omega) (by omega) (by omega)
      refine T_iload_n (q := 34) (i := 3) rfl rfl rfl rfl rfl ?_
      refine T_bipush (q := 36) rfl rfl rfl (by decide) ?_
      refine T_icmp_ge (q := 39) (tgt := 63) rfl rfl rfl (by decide) (by omega) (by omega) (fun h36 => ?_) (fun h36 => ?_)
      · omega
      · refine T_ldc2 (q := 42) rfl rfl rfl rfl ?_
        refine T_lload_n (q := 43) (i := 1) rfl rfl rfl rfl rfl ?_
        refine T_lmul (q := 44) rfl rfl rfl ?_
        refine T_aload_n (q := 45) (i := 0) rfl rfl rfl rfl rfl ?_
        refine T_iload_n (q := 46) (i := 3) rfl rfl rfl rfl rfl ?_
        refine T_iconst (q := 47) rfl rfl rfl ?_
        refine T_idiv (q := 48) rfl rfl rfl (by decide) ?_
        refine T_iload_n (q := 49) (i := 3) rfl rfl rfl rfl rfl ?_
        refine T_iconst (q := 50) rfl rfl rfl ?_
        refine T_irem (q := 51) rfl rfl rfl (by decide) ?_
        refine O_desk (q := 54) s rfl rfl rfl rfl ⟨by omega, by omega⟩ rfl rfl (fun M' s => ?_)
        refine T_i2l (q := 55) rfl rfl rfl ?_
        refine T_ladd (q := 56) rfl rfl rfl ?_
        refine T_lstore_n (q := 57) (i := 1) rfl rfl rfl rfl rfl rfl ?_
        refine T_iinc (q := 60) rfl rfl rfl rfl rfl ?_
        refine T_goto (q := 63) (tgt := 33) rfl rfl rfl (by decide) ?_
        have := ih (k + 1) _ (by omega) s
        rw [ks] at this
        exact this
  have L1 : ∀ (n k : Nat) (M1 : Mem), k + n = 17 → Sme M M1 → Run2 sx_L_print L (xcF scr) false 0 (fun x M' => x = prV (M 12) ∧ Sme M M') 0 6 [wR 3, wL (prL (pr1 (M 12)) 13 k), none, wI (k : Int)] [] M1 := by
    intro n
    induction n with
    | zero =>
      intro k M1 hk s
      refine T_iload_n (q := 7) (i := 3) rfl rfl rfl rfl rfl ?_
      refine T_bipush (q := 9) rfl rfl rfl (by decide) ?_
      refine T_icmp_ge (q := 12) (tgt := 31) rfl rfl rfl (by decide) (by omega) (by omega) (fun h9 => ?_) (fun h9 => ?_)
      · refine T_iconst (q := 32) rfl rfl rfl ?_
        refine T_istore_n (q := 33) (i := 3) rfl rfl rfl rfl rfl ?_
        have := L2 _ 0 _ (Nat.zero_add _) s
        rw [show prA (M 12) = prL (pr1 (M 12)) 13 k by rw [show k = 17 by omega]; rfl] at this
        exact this
      · omega
    | succ n ih =>
      intro k M1 hk s
      have ks : ((k + 1 : Nat) : Int) = (k : Int) + 1 := by omega
      refine T_iload_n (q := 7) (i := 3) rfl rfl rfl rfl rfl ?_
      refine T_bipush (q := 9) rfl rfl rfl (by decide) ?_
      refine T_icmp_ge (q := 12) (tgt := 31) rfl rfl rfl (by decide) (by omega) (by omega) (fun h9 => ?_) (fun h9 => ?_)
      · omega
      · refine T_ldc2 (q := 15) rfl rfl rfl rfl ?_
        refine T_lload_n (q := 16) (i := 1) rfl rfl rfl rfl rfl ?_
        refine T_lmul (q := 17) rfl rfl rfl ?_
        refine T_aload_n (q := 18) (i := 0) rfl rfl rfl rfl rfl ?_
        refine T_iload_n (q := 19) (i := 3) rfl rfl rfl rfl rfl ?_
        refine O_count (q := 22) s rfl rfl rfl rfl (by omega) (cnV_w (M2 := fun _ _ => 0) (by omega)) rfl (fun M' s => ?_)
        refine T_i2l (q := 23) rfl rfl rfl ?_
        refine T_ladd (q := 24) rfl rfl rfl ?_
        refine T_lstore_n (q := 25) (i := 1) rfl rfl rfl rfl rfl rfl ?_
        refine T_iinc (q := 28) rfl rfl rfl rfl rfl ?_
        refine T_goto (q := 31) (tgt := 6) rfl rfl rfl (by decide) ?_
        have := ih (k + 1) _ (by omega) s
        rw [ks] at this
        exact this
  refine T_ldc2 (q := 3) rfl rfl rfl rfl ?_
  refine T_lstore_n (q := 4) (i := 1) rfl rfl rfl rfl rfl rfl ?_
  refine T_iconst (q := 5) rfl rfl rfl ?_
  refine T_istore_n (q := 6) (i := 3) rfl rfl rfl rfl rfl ?_
  exact L1 17 0 _ rfl (Sme.rf g)
set_option maxRecDepth 100000 in
set_option maxHeartbeats 1000000 in
theorem mt_L_print : Mt2 yL_print cL_print 4 (some .long) 5 C_L_print := by
  refine mt2_of sx_L_print (by decide +kernel) (Or.inr (Or.inr ⟨rfl, rfl, rfl⟩)) (by decide +kernel) kLL_ok kIL_ok
    (all_cons (cl2_of mt_X6_count rfl rfl der_count (GT_at 278 (by decide +kernel) (by decide +kernel)) (GT_at 11 (by decide +kernel) (by decide +kernel)) (GT_at 281 (by decide +kernel) (by decide +kernel)) (by decide +kernel) (by decide) (GT_at 279 (by decide +kernel) (by decide +kernel)) (GT_at 280 (by decide +kernel) (by decide +kernel)) rfl) (all_cons (cl2_of mt_X6_desk rfl rfl der_desk (GT_at 487 (by decide +kernel) (by decide +kernel)) (GT_at 11 (by decide +kernel) (by decide +kernel)) (GT_at 490 (by decide +kernel) (by decide +kernel)) (by decide +kernel) (by decide) (GT_at 488 (by decide +kernel) (by decide +kernel)) (GT_at 489 (by decide +kernel) (by decide +kernel)) rfl) (all_cons (cl2_of mt_X6_trunk rfl rfl der_trunk (GT_at 455 (by decide +kernel) (by decide +kernel)) (GT_at 11 (by decide +kernel) (by decide +kernel)) (GT_at 458 (by decide +kernel) (by decide +kernel)) (by decide +kernel) (by decide) (GT_at 456 (by decide +kernel) (by decide +kernel)) (GT_at 457 (by decide +kernel) (by decide +kernel)) rfl) (all_cons (cl2_of mt_X6_pieces rfl rfl der_pieces (GT_at 470 (by decide +kernel) (by decide +kernel)) (GT_at 11 (by decide +kernel) (by decide +kernel)) (GT_at 473 (by decide +kernel) (by decide +kernel)) (by decide +kernel) (by decide) (GT_at 471 (by decide +kernel) (by decide +kernel)) (GT_at 472 (by decide +kernel) (by decide +kernel)) rfl) (all_nil)))))
    (all_nil) ?_ ?_
  · rintro as M - ⟨o, rfl, hp⟩
    exact Nat.le_of_ble_eq_true rfl
  · rintro L scr as M hL - ⟨o, rfl, hp⟩
    exact Run2.mono (fun x M' h _ e => by cases e; exact h) (ok_L_print L scr hL o M hp)
