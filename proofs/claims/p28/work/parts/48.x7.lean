theorem Wn.itV_ {f g : Int → Int} (h : Wn g f) (I : Inv f) {n w : Int} : itV n w g = itV n w f := by
  have k := Wn.tnN_ n.toNat _ _ h I
  unfold itV tkn
  rw [h.psn_ I, k 9 (by omega) (by omega), k 11 (by omega) (by omega), k 12 (by omega) (by omega), k 13 (by omega) (by omega), h 9 (by omega) (by omega), h 11 (by omega) (by omega), h 12 (by omega) (by omega), h 13 (by omega) (by omega)]
theorem Kp_w : Kp 7 := Kp7
abbrev C_X6_ifTurned : Ct := (3, true, fun as M => ∃ (o : Nat) (n : Int) (w : Int), as = [wR o, wI n, wI w] ∧ (o = 3 ∧ GI M ∧ inr n ∧ inr w), fun as M x M' => ∀ (o : Nat) (n : Int) (w : Int), as = [wR o, wI n, wI w] → (Bo C_X7_ifTurned [wR 11, wI n, wI w] M M' x))
def sx_X6_ifTurned : Sx := (tb_X6_ifTurned, fdX6, kLX6, kIX6, sgX6, ntX6, [(41, (9, C_X6_isWithin)), (204, (4, C_X4_copyFrom)), (137, (4, C_X4_makeTurns)), (180, (5, C_X5_countWithFate)), (192, (4, C_X4_taken))], 1)
set_option maxRecDepth 100000 in
set_option maxHeartbeats 1000000 in
theorem ok_X6_ifTurned (L : Nat) (scr : Int → Int) (o : Nat) (n : Int) (w : Int) (M : Mem) (hp : o = 3 ∧ GI M ∧ inr n ∧ inr w) : Runs sx_X6_ifTurned L (xcF scr) (fun x M' => Bo C_X7_ifTurned [wR 11, wI n, wI w] M M' x) 0 [wR o, wI n, wI w, none] [] M := by
  obtain ⟨rfl, g, h1, h2⟩ := hp
  have I := g.2.1.1
  have i7 := g.i7
  have e7 : M (15 + 11) 0 = M 12 7 := g.1.1.ca
  by_cases ok : itOK n w
  · have ok2 := ok
    unfold itOK at ok2
    obtain ⟨I2, k2, -⟩ := tnN_Inv n.toNat (M 12) I
    have done : ∀ (M1 : Mem) (x : Int), FrS M M1 37 → x = itV n w (M 12) → Bo C_X7_ifTurned [wR 11, wI n, wI w] M M1 x := fun M1 x f2 hx => by
      have sm := SmC.t f2
      refine Bo_sm g sm (fun y N q => ?_)
      have e12 := sm.r 12 (by omega) (by omega)
      rcases q 11 n w rfl with ⟨z, _⟩ | ⟨_, rfl, z⟩
      · exact absurd ok z
      · exact ⟨hx.trans (Wn.itV_ (wn_tau e12) I).symm, SmR.t z⟩
    have hw : w = 0 ∨ w = 1 ∨ w = 2 := by omega
    rcases hw with rfl | rfl | rfl
    · refine R_iload_n (q := 1) (i := 1) rfl rfl rfl rfl ?_
      refine R_iconst (q := 2) rfl rfl ?_
      refine R_sipush (q := 5) rfl rfl (by decide) ?_
      refine R_cS3I (q := 8) (ci := 9) (C := C_X6_isWithin) rfl rfl rfl rfl rfl ⟨_, _, _, rfl, (by first | trivial | assumption | omega)⟩ rfl rfl (fun x M' hc => ?_)
      replace hc := hc _ _ _ rfl
      obtain ⟨w5, rfl⟩ := hc
      refine R_if_eq (q := 11) (tgt := 20) rfl rfl (by decide) (by omega) (fun h8 => ?_) (fun h8 => ?_)
      · omega
      · refine R_iload_n (q := 12) (i := 2) rfl rfl rfl rfl ?_
        refine R_iconst (q := 13) rfl rfl ?_
        refine R_iconst (q := 14) rfl rfl ?_
        refine R_cS3I (q := 17) (ci := 9) (C := C_X6_isWithin) rfl rfl rfl rfl rfl ⟨_, _, _, rfl, (by first | trivial | assumption | omega)⟩ rfl rfl (fun x M' hc => ?_)
        replace hc := hc _ _ _ rfl
        obtain ⟨w14, rfl⟩ := hc
        refine R_if_ne (q := 20) (tgt := 23) rfl rfl (by decide) (by omega) (fun h17 => ?_) (fun h17 => ?_)
        · refine R_aload_n (q := 24) (i := 0) rfl rfl rfl rfl ?_
          refine R_getR (q := 27) rfl rfl rfl rfl rfl (by omega) ?_
          refine R_aload_n (q := 28) (i := 0) rfl rfl rfl rfl ?_
          refine R_getR (q := 31) rfl rfl rfl rfl rfl (by omega) ?_
          refine R_cV1N (q := 34) (ci := 4) (C := C_X4_copyFrom) rfl rfl rfl rfl rfl ⟨_, _, rfl, ⟨st37, st15, by omega, by rw [e7]; omega, by rw [e7]; omega⟩⟩ rfl (lay0 st37) (by omega) (fun M' hc => ?_)
          replace hc := hc _ _ rfl
          obtain ⟨r1, f1⟩ := hc
          refine R_aload_n (q := 35) (i := 0) rfl rfl rfl rfl ?_
          refine R_getR (q := 38) rfl rfl rfl rfl rfl (by omega) ?_
          refine R_iload_n (q := 39) (i := 1) rfl rfl rfl rfl ?_
          refine R_gh (M 12) ?_
          refine R_cV1I (q := 42) (ci := 4) (C := C_X4_makeTurns) rfl rfl rfl rfl rfl ⟨_, _, rfl, ⟨si_gh st37 (r1 _ g.1.1) I, by omega⟩⟩ rfl (lay0 st37) (by omega) (fun x M' hc => ?_)
          replace hc := hc _ _ rfl
          obtain ⟨hx, r2, f2⟩ := hc
          rw [gho_g] at hx r2
          have f2 := f1.tr f2.gh
          refine R_istore_n (q := 43) (i := 3) rfl rfl rfl rfl ?_
          refine R_iload_n (q := 44) (i := 2) rfl rfl rfl rfl ?_
          refine R_lookup (q := 72) (off := 28) (tgt := 72) rfl rfl (by omega) (by decide) rfl (by decide) ?_
          refine R_iload_n (q := 73) (i := 3) rfl rfl rfl rfl ?_
          refine R_ret rfl (Or.inl rfl) ?_
          exact done _ _ f2 hx.symm
        · omega
    · refine R_iload_n (q := 1) (i := 1) rfl rfl rfl rfl ?_
      refine R_iconst (q := 2) rfl rfl ?_
      refine R_sipush (q := 5) rfl rfl (by decide) ?_
      refine R_cS3I (q := 8) (ci := 9) (C := C_X6_isWithin) rfl rfl rfl rfl rfl ⟨_, _, _, rfl, (by first | trivial | assumption | omega)⟩ rfl rfl (fun x M' hc => ?_)
      replace hc := hc _ _ _ rfl
      obtain ⟨w5, rfl⟩ := hc
      refine R_if_eq (q := 11) (tgt := 20) rfl rfl (by decide) (by omega) (fun h8 => ?_) (fun h8 => ?_)
      · omega
      · refine R_iload_n (q := 12) (i := 2) rfl rfl rfl rfl ?_
        refine R_iconst (q := 13) rfl rfl ?_
        refine R_iconst (q := 14) rfl rfl ?_
        refine R_cS3I (q := 17) (ci := 9) (C := C_X6_isWithin) rfl rfl rfl rfl rfl ⟨_, _, _, rfl, (by first | trivial | assumption | omega)⟩ rfl rfl (fun x M' hc => ?_)
        replace hc := hc _ _ _ rfl
        obtain ⟨w14, rfl⟩ := hc
        refine R_if_ne (q := 20) (tgt := 23) rfl rfl (by decide) (by omega) (fun h17 => ?_) (fun h17 => ?_)
        · refine R_aload_n (q := 24) (i := 0) rfl rfl rfl rfl ?_
          refine R_getR (q := 27) rfl rfl rfl rfl rfl (by omega) ?_
          refine R_aload_n (q := 28) (i := 0) rfl rfl rfl rfl ?_
          refine R_getR (q := 31) rfl rfl rfl rfl rfl (by omega) ?_
          refine R_cV1N (q := 34) (ci := 4) (C := C_X4_copyFrom) rfl rfl rfl rfl rfl ⟨_, _, rfl, ⟨st37, st15, by omega, by rw [e7]; omega, by rw [e7]; omega⟩⟩ rfl (lay0 st37) (by omega) (fun M' hc => ?_)
          replace hc := hc _ _ rfl
          obtain ⟨r1, f1⟩ := hc
          refine R_aload_n (q := 35) (i := 0) rfl rfl rfl rfl ?_
          refine R_getR (q := 38) rfl rfl rfl rfl rfl (by omega) ?_
          refine R_iload_n (q := 39) (i := 1) rfl rfl rfl rfl ?_
          refine R_gh (M 12) ?_
          refine R_cV1I (q := 42) (ci := 4) (C := C_X4_makeTurns) rfl rfl rfl rfl rfl ⟨_, _, rfl, ⟨si_gh st37 (r1 _ g.1.1) I, by omega⟩⟩ rfl (lay0 st37) (by omega) (fun x M' hc => ?_)
          replace hc := hc _ _ rfl
          obtain ⟨hx, r2, f2⟩ := hc
          rw [gho_g] at hx r2
          have f2 := f1.tr f2.gh
          have r0 : RelS M' 15 (M 12) := g.1.1.off (fun r a b => f2 r (by omega) (by omega))
          have c2 : tnN n.toNat (M 12) 9 = cF (tnN n.toNat (M 12)) 2 (tnN n.toNat (M 12) 7).toNat := I2.2.2.2.2.2.2.2.2.1
          have c0 : M 12 9 = cF (M 12) 2 (M 12 7).toNat := I.2.2.2.2.2.2.2.2.1
          generalize M' = N3 at r2 f2 r0 ⊢
          refine R_istore_n (q := 43) (i := 3) rfl rfl rfl rfl ?_
          refine R_iload_n (q := 44) (i := 2) rfl rfl rfl rfl ?_
          refine R_lookup (q := 72) (off := 30) (tgt := 74) rfl rfl (by omega) (by decide) rfl (by decide) ?_
          refine R_aload_n (q := 75) (i := 0) rfl rfl rfl rfl ?_
          refine R_getR (q := 78) rfl rfl rfl rfl rfl (by omega) ?_
          refine R_getR (q := 81) rfl rfl rfl (lay0 st37) rfl (by omega) ?_
          refine R_iconst (q := 82) rfl rfl ?_
          refine R_gh (tnN n.toNat (M 12)) ?_
          refine R_cV1I (q := 85) (ci := 5) (C := C_X5_countWithFate) rfl rfl rfl rfl rfl ⟨_, _, rfl, cF_pre st37 r2 I2 (by omega)⟩ rfl (lay_tk (tkI st37)) (by omega) (fun x M' hc => ?_)
          replace hc := hc _ _ rfl
          obtain ⟨hc, rfl⟩ := hc
          rw [gho_g, gho_r _ _ (by omega), r2.ca, ← c2] at hc
          subst hc
          refine R_un ?_
          refine R_aload_n (q := 86) (i := 0) rfl rfl rfl rfl ?_
          refine R_getR (q := 89) rfl rfl rfl rfl rfl (by omega) ?_
          refine R_getR (q := 92) rfl rfl rfl (lay0 st15) rfl (by omega) ?_
          refine R_iconst (q := 93) rfl rfl ?_
          refine R_gh (M 12) ?_
          refine R_cV1I (q := 96) (ci := 5) (C := C_X5_countWithFate) rfl rfl rfl rfl rfl ⟨_, _, rfl, cF_pre st15 r0 I (by omega)⟩ rfl (lay_tk (tkI st15)) (by omega) (fun x M' hc => ?_)
          replace hc := hc _ _ rfl
          obtain ⟨hc, rfl⟩ := hc
          rw [gho_g, gho_r _ _ (by omega), r0.ca, ← c0] at hc
          subst hc
          refine R_un ?_
          refine R_isub (q := 97) rfl rfl ?_
          refine R_ret rfl (Or.inl rfl) ?_
          exact done _ _ f2 rfl
        · omega
    · refine R_iload_n (q := 1) (i := 1) rfl rfl rfl rfl ?_
      refine R_iconst (q := 2) rfl rfl ?_
      refine R_sipush (q := 5) rfl rfl (by decide) ?_
      refine R_cS3I (q := 8) (ci := 9) (C := C_X6_isWithin) rfl rfl rfl rfl rfl ⟨_, _, _, rfl, (by first | trivial | assumption | omega)⟩ rfl rfl (fun x M' hc => ?_)
      replace hc := hc _ _ _ rfl
      obtain ⟨w5, rfl⟩ := hc
      refine R_if_eq (q := 11) (tgt := 20) rfl rfl (by decide) (by omega) (fun h8 => ?_) (fun h8 => ?_)
      · omega
      · refine R_iload_n (q := 12) (i := 2) rfl rfl rfl rfl ?_
        refine R_iconst (q := 13) rfl rfl ?_
        refine R_iconst (q := 14) rfl rfl ?_
        refine R_cS3I (q := 17) (ci := 9) (C := C_X6_isWithin) rfl rfl rfl rfl rfl ⟨_, _, _, rfl, (by first | trivial | assumption | omega)⟩ rfl rfl (fun x M' hc => ?_)
        replace hc := hc _ _ _ rfl
        obtain ⟨w14, rfl⟩ := hc
        refine R_if_ne (q := 20) (tgt := 23) rfl rfl (by decide) (by omega) (fun h17 => ?_) (fun h17 => ?_)
        · refine R_aload_n (q := 24) (i := 0) rfl rfl rfl rfl ?_
          refine R_getR (q := 27) rfl rfl rfl rfl rfl (by omega) ?_
          refine R_aload_n (q := 28) (i := 0) rfl rfl rfl rfl ?_
          refine R_getR (q := 31) rfl rfl rfl rfl rfl (by omega) ?_
          refine R_cV1N (q := 34) (ci := 4) (C := C_X4_copyFrom) rfl rfl rfl rfl rfl ⟨_, _, rfl, ⟨st37, st15, by omega, by rw [e7]; omega, by rw [e7]; omega⟩⟩ rfl (lay0 st37) (by omega) (fun M' hc => ?_)
          replace hc := hc _ _ rfl
          obtain ⟨r1, f1⟩ := hc
          refine R_aload_n (q := 35) (i := 0) rfl rfl rfl rfl ?_
          refine R_getR (q := 38) rfl rfl rfl rfl rfl (by omega) ?_
          refine R_iload_n (q := 39) (i := 1) rfl rfl rfl rfl ?_
          refine R_gh (M 12) ?_
          refine R_cV1I (q := 42) (ci := 4) (C := C_X4_makeTurns) rfl rfl rfl rfl rfl ⟨_, _, rfl, ⟨si_gh st37 (r1 _ g.1.1) I, by omega⟩⟩ rfl (lay0 st37) (by omega) (fun x M' hc => ?_)
          replace hc := hc _ _ rfl
          obtain ⟨hx, r2, f2⟩ := hc
          rw [gho_g] at hx r2
          have f2 := f1.tr f2.gh
          have r0 : RelS M' 15 (M 12) := g.1.1.off (fun r a b => f2 r (by omega) (by omega))
          generalize M' = N3 at r2 f2 r0 ⊢
          refine R_istore_n (q := 43) (i := 3) rfl rfl rfl rfl ?_
          refine R_iload_n (q := 44) (i := 2) rfl rfl rfl rfl ?_
          refine R_lookup (q := 72) (off := 54) (tgt := 98) rfl rfl (by omega) (by decide) rfl (by decide) ?_
          refine R_aload_n (q := 99) (i := 0) rfl rfl rfl rfl ?_
          refine R_getR (q := 102) rfl rfl rfl rfl rfl (by omega) ?_
          refine R_cV0I (q := 105) (ci := 4) (C := C_X4_taken) rfl rfl rfl rfl rfl ⟨_, rfl, st37⟩ rfl (lay0 st37) (by omega) (fun x M' hc => ?_)
          replace hc := hc _ rfl
          obtain ⟨rfl, rfl⟩ := hc
          refine R_aload_n (q := 106) (i := 0) rfl rfl rfl rfl ?_
          refine R_getR (q := 109) rfl rfl rfl rfl rfl (by omega) ?_
          refine R_cV0I (q := 112) (ci := 4) (C := C_X4_taken) rfl rfl rfl rfl rfl ⟨_, rfl, st15⟩ rfl (lay0 st15) (by omega) (fun x M' hc => ?_)
          replace hc := hc _ rfl
          obtain ⟨rfl, rfl⟩ := hc
          refine R_isub (q := 113) rfl rfl ?_
          refine R_ret rfl (Or.inl rfl) ?_
          refine done _ _ f2 ?_
          rw [r2.fe, r2.fi, r2.dl, r0.fe, r0.fi, r0.dl]
          rfl
        · omega
  · refine R_iload_n (q := 1) (i := 1) rfl rfl rfl rfl ?_
    refine R_iconst (q := 2) rfl rfl ?_
    refine R_sipush (q := 5) rfl rfl (by decide) ?_
    refine R_cS3I (q := 8) (ci := 9) (C := C_X6_isWithin) rfl rfl rfl rfl rfl ⟨_, _, _, rfl, (by first | trivial | assumption | omega)⟩ rfl rfl (fun x M' hc => ?_)
    replace hc := hc _ _ _ rfl
    obtain ⟨w5, rfl⟩ := hc
    refine R_if_eq (q := 11) (tgt := 20) rfl rfl (by decide) (by omega) (fun h8 => ?_) (fun h8 => ?_)
    · refine R_bipush (q := 22) rfl rfl (by decide) ?_
      refine R_ret rfl (Or.inl rfl) ?_
      refine Bo_sm g SmC.rf (fun y N q => ?_)
      rcases q 11 n w rfl with ⟨_, rfl, rfl⟩ | ⟨z, _⟩
      · exact ⟨rfl, SmR.rf⟩
      · exact absurd z ok
    · refine R_iload_n (q := 12) (i := 2) rfl rfl rfl rfl ?_
      refine R_iconst (q := 13) rfl rfl ?_
      refine R_iconst (q := 14) rfl rfl ?_
      refine R_cS3I (q := 17) (ci := 9) (C := C_X6_isWithin) rfl rfl rfl rfl rfl ⟨_, _, _, rfl, (by first | trivial | assumption | omega)⟩ rfl rfl (fun x M' hc => ?_)
      replace hc := hc _ _ _ rfl
      obtain ⟨w14, rfl⟩ := hc
      refine R_if_ne (q := 20) (tgt := 23) rfl rfl (by decide) (by omega) (fun h17 => ?_) (fun h17 => ?_)
      · (unfold itOK at ok; omega)
      · refine R_bipush (q := 22) rfl rfl (by decide) ?_
        refine R_ret rfl (Or.inl rfl) ?_
        refine Bo_sm g SmC.rf (fun y N q => ?_)
        rcases q 11 n w rfl with ⟨_, rfl, rfl⟩ | ⟨z, _⟩
        · exact ⟨rfl, SmR.rf⟩
        · exact absurd z ok
set_option maxRecDepth 100000 in
theorem mt_X6_ifTurned : MtOK yX6_ifTurned cX6_ifTurned 4 (some .int) 6 C_X6_ifTurned := by
  refine mt_of sx_X6_ifTurned (by decide +kernel) (Or.inl ⟨rfl, rfl, rfl⟩) (by decide +kernel) fdX6_ok kLX6_ok kIX6_ok sgX6_ok ntX6_ok
    (all_cons (clokS mt_X6_isWithin (GT_at 282 (by decide +kernel) (by decide +kernel)) (GT_at 11 (by decide +kernel) (by decide +kernel)) (GT_at 284 (by decide +kernel) (by decide +kernel)) (by decide +kernel) (by decide) (GT_at 283 (by decide +kernel) (by decide +kernel))) (all_cons (clokV mt_X4_copyFrom rfl (GT_at 507 (by decide +kernel) (by decide +kernel)) (GT_at 12 (by decide +kernel) (by decide +kernel)) (GT_at 252 (by decide +kernel) (by decide +kernel)) (by decide +kernel) (by decide) (GT_at 250 (by decide +kernel) (by decide +kernel)) (GT_at 251 (by decide +kernel) (by decide +kernel)) rfl rfl) (all_cons (clokV mt_X4_makeTurns rfl (GT_at 404 (by decide +kernel) (by decide +kernel)) (GT_at 12 (by decide +kernel) (by decide +kernel)) (GT_at 407 (by decide +kernel) (by decide +kernel)) (by decide +kernel) (by decide) (GT_at 405 (by decide +kernel) (by decide +kernel)) (GT_at 406 (by decide +kernel) (by decide +kernel)) rfl rfl) (all_cons (clokV mt_X5_countWithFate rfl (GT_at 285 (by decide +kernel) (by decide +kernel)) (GT_at 14 (by decide +kernel) (by decide +kernel)) (GT_at 288 (by decide +kernel) (by decide +kernel)) (by decide +kernel) (by decide) (GT_at 286 (by decide +kernel) (by decide +kernel)) (GT_at 287 (by decide +kernel) (by decide +kernel)) rfl rfl) (all_cons (clokV mt_X4_taken rfl (GT_at 289 (by decide +kernel) (by decide +kernel)) (GT_at 12 (by decide +kernel) (by decide +kernel)) (GT_at 292 (by decide +kernel) (by decide +kernel)) (by decide +kernel) (by decide) (GT_at 290 (by decide +kernel) (by decide +kernel)) (GT_at 291 (by decide +kernel) (by decide +kernel)) rfl rfl) (all_nil)))))) ?_ ?_
  · rintro as M - ⟨o, n, w, rfl, hp⟩
    exact Nat.le_of_ble_eq_true rfl
  · rintro L scr as M - ⟨o, n, w, rfl, hp⟩
    exact Runs.mono (fun x M' h _ _ _ e => by cases e; exact h) (ok_X6_ifTurned L scr o n w M hp)
theorem bhP_ge {f : Int → Int} : ∀ n : Nat, psn 5 f ≤ (bhP f n).2
  | 0 => Int.le_refl _
  | n + 1 => by
    have := bhP_ge (f := f) n
    unfold bhP
    by_cases e : f (26 + 4 * (n : Int)) < 3 ∧ (bhP f n).2 < psn 5 (bhU f (n : Int))
    · rw [if_pos e]
      show psn 5 f ≤ psn 5 (bhU f (n : Int))
      omega
    · rw [if_neg e]
      exact this
theorem bhP_W {f g : Int → Int} (h : Wn g f) (I : Inv f) : ∀ n : Nat, n ≤ 3 → bhP g n = bhP f n
  | 0, _ => by
    unfold bhP
    rw [h.psn_ I]
  | n + 1, hn => by
    have e := h (26 + 4 * (n : Int)) (by omega) (by omega)
    unfold bhP
    rw [bhP_W h I n (by omega), e]
    by_cases c : f (26 + 4 * (n : Int)) < 3
    · have w : Wn (bhU g (n : Int)) (bhU f (n : Int)) := by
        unfold bhU
        exact h.us_ (by rw [e])
      rw [w.psn_ (bhU_Inv (by omega) I c)]
    · rw [if_neg (fun z => c z.1), if_neg (fun z => c z.1)]
abbrev C_X6_bestHand : Ct := (1, true, fun as M => ∃ (o : Nat), as = [wR o] ∧ (o = 3 ∧ GI M), fun as M x M' => ∀ (o : Nat), as = [wR o] → (Bo C_X7_bestHand [wR 11] M M' x))
def sx_X6_bestHand : Sx := (tb_X6_bestHand, fdX6, kLX6, kIX6, sgX6, ntX6, [(204, (4, C_X4_copyFrom)), (137, (4, C_X4_makeTurns))], 1)
set_option maxRecDepth 100000 in
set_option maxHeartbeats 1000000 in
theorem ok_X6_bestHand (L : Nat) (scr : Int → Int) (o : Nat) (M : Mem) (hp : o = 3 ∧ GI M) : Runs sx_X6_bestHand L (xcF scr) (fun x M' => Bo C_X7_bestHand [wR 11] M M' x) 0 [wR o, none, none, none, none] [] M := by
  obtain ⟨rfl, g⟩ := hp
  have I := g.2.1.1
  have i7 := g.i7
  have e7 : M (15 + 11) 0 = M 12 7 := g.1.1.ca
  have L1 : ∀ (n k : Nat) (N : Mem) (u : PV), k + n = 3 → FrS M N 37 → Runs sx_X6_bestHand L (xcF scr) (fun x M' => Bo C_X7_bestHand [wR 11] M M' x) 25 [wR 3, wI (bhP (M 12) k).2, wI (bhP (M 12) k).1, wI (k : Int), u] [] N := by
    intro n
    induction n with
    | zero =>
      intro k N u hk f1
      refine R_iload_n (q := 26) (i := 3) rfl rfl rfl rfl ?_
      refine R_iconst (q := 27) rfl rfl ?_
      refine R_icmp_ge (q := 30) (tgt := 98) rfl rfl (by decide) (by omega) (by omega) (fun h27 => ?_) (fun h27 => ?_)
      · refine R_iload_n (q := 99) (i := 2) rfl rfl rfl rfl ?_
        refine R_ret rfl (Or.inl rfl) ?_
        have sm := SmC.t f1
        refine Bo_sm g sm (fun y N1 q => ?_)
        have e12 := sm.r 12 (by omega) (by omega)
        obtain ⟨rfl, z⟩ := q 11 rfl
        rw [bhP_W (wn_tau e12) I 3 (by omega), show k = 3 by omega]
        exact ⟨rfl, SmR.t z⟩
      · omega
    | succ n ih =>
      intro k N u hk f1
      have hd : 0 ≤ (k : Int) ∧ (k : Int) < 3 := by omega
      have r0 : RelS N 15 (M 12) := g.1.1.off (fun r a b => f1 r (by omega) (by omega))
      have e72 : N (15 + 11) 0 = M 12 7 := r0.ca
      have bb := bhP_bd I k (by omega)
      have bg := bhP_ge (f := M 12) k
      have hh := I.2.2.1 (k : Int) hd.1 hd.2
      have ks : ((k + 1 : Nat) : Int) = (k : Int) + 1 := by omega
      have sp : bhP (M 12) (k + 1) = if M 12 (26 + 4 * (k : Int)) < 3 ∧ (bhP (M 12) k).2 < psn 5 (bhU (M 12) (k : Int)) then ((k : Int), psn 5 (bhU (M 12) (k : Int))) else bhP (M 12) k := rfl
      refine R_iload_n (q := 26) (i := 3) rfl rfl rfl rfl ?_
      refine R_iconst (q := 27) rfl rfl ?_
      refine R_icmp_ge (q := 30) (tgt := 98) rfl rfl (by decide) (by omega) (by omega) (fun h27 => ?_) (fun h27 => ?_)
      · omega
      · refine R_aload_n (q := 31) (i := 0) rfl rfl rfl rfl ?_
        refine R_getR (q := 34) rfl rfl rfl rfl rfl (by omega) ?_
        refine R_aload_n (q := 35) (i := 0) rfl rfl rfl rfl ?_
        refine R_getR (q := 38) rfl rfl rfl rfl rfl (by omega) ?_
        refine R_cV1N (q := 41) (ci := 4) (C := C_X4_copyFrom) rfl rfl rfl rfl rfl ⟨_, _, rfl, ⟨st37, st15, by omega, by rw [e72]; omega, by rw [e72]; omega⟩⟩ rfl (lay0 st37) (by omega) (fun M' hc => ?_)
        replace hc := hc _ _ rfl
        obtain ⟨r1, f2⟩ := hc
        have r1 := r1 _ r0
        have r3 : RelS M' 15 (M 12) := r0.off (fun r a b => f2 r (by omega) (by omega))
        have f3 := f1.tr f2
        have eh := r3.hc hd
        have eb := (clD hd).1.1
        have hv : (if M 12 (26 + 4 * (k : Int)) + 1 < 3 then M 12 (26 + 4 * (k : Int)) + 1 else 3) = (if M 12 (26 + 4 * (k : Int)) < 3 then M 12 (26 + 4 * (k : Int)) + 1 else 3) := by
          split <;> split <;> omega
        obtain ⟨v, hv2⟩ : ∃ v, v = (if M 12 (26 + 4 * (k : Int)) < 3 then M 12 (26 + 4 * (k : Int)) + 1 else 3) := ⟨_, rfl⟩
        have vb : 0 ≤ v ∧ v ≤ 3 := by
          rw [hv2]
          split <;> omega
        have r4 := r1.up (26 + 4 * (k : Int)) (x := v) (pv_w (by omega)) (by omega) rfl rfl (en_n (nP (by omega)))
        rw [(clD hd).1.1, (clD hd).2.1] at r4
        have I4 := Inv_hds (v := v) I hd vb
        have f4 : FrS M (upM M' (37 + (5 + 2 * (k : Int).toNat)) 2 v) 37 := f3.up (by omega) (by omega)
        generalize M' = N2 at *
        refine R_aload_n (q := 42) (i := 0) rfl rfl rfl rfl ?_
        refine R_getR (q := 45) rfl rfl rfl rfl rfl (by omega) ?_
        refine R_getR (q := 48) rfl rfl rfl (lay0 st37) rfl (by omega) ?_
        refine R_iload_n (q := 49) (i := 3) rfl rfl rfl rfl ?_
        refine R_aald (q := 50) (r2 := 37 + 5 + 2 * (k : Int).toNat) rfl rfl (layi st37 rfl) (by omega) (by omega) rfl ?_
        refine R_iconst (q := 51) rfl rfl ?_
        refine R_aload_n (q := 52) (i := 0) rfl rfl rfl rfl ?_
        refine R_getR (q := 55) rfl rfl rfl rfl rfl (by omega) ?_
        refine R_getR (q := 58) rfl rfl rfl (lay0 st15) rfl (by omega) ?_
        refine R_iload_n (q := 59) (i := 3) rfl rfl rfl rfl ?_
        refine R_aald (q := 60) (r2 := 15 + 5 + 2 * (k : Int).toNat) rfl rfl (layi st15 rfl) (by omega) (by omega) rfl ?_
        refine R_getI (q := 63) (k1 := 2) rfl rfl rfl (lay_dk (dkI st15 hd)) rfl (by omega) rfl ?_
        refine R_iconst (q := 64) rfl rfl ?_
        refine R_iadd (q := 65) rfl rfl ?_
        rw [eh]
        refine R_mmin (q := 68) rfl rfl rfl (by omega) (by omega) rfl ?_
        rw [hv, ← hv2]
        refine R_putI (q := 71) (k1 := 2) rfl rfl rfl (lay_dk (dkI st37 hd)) rfl (by omega) rfl rfl rfl rfl ?_
        rw [show 37 + 5 + 2 * (k : Int).toNat = 37 + (5 + 2 * (k : Int).toNat) by omega]
        refine R_aload_n (q := 72) (i := 0) rfl rfl rfl rfl ?_
        refine R_getR (q := 75) rfl rfl rfl rfl rfl (by omega) ?_
        refine R_iconst (q := 76) rfl rfl ?_
        refine R_gh (us (M 12) (26 + 4 * (k : Int)) v) ?_
        refine R_cV1I (q := 79) (ci := 4) (C := C_X4_makeTurns) rfl rfl rfl rfl rfl ⟨_, _, rfl, ⟨si_gh st37 r4 I4, by omega⟩⟩ rfl (lay0 st37) (by omega) (fun x M' hc => ?_)
        replace hc := hc _ _ rfl
        obtain ⟨hx, -, f5⟩ := hc
        rw [gho_g] at hx
        have f5 := f4.tr f5.gh
        have hx : psn 5 (us (M 12) (26 + 4 * (k : Int)) v) = x := hx
        have pb := psn_bd 5 I4
        have hc : M 12 (26 + 4 * (k : Int)) < 3 ∧ psn 5 (bhU (M 12) (k : Int)) = x ∨ ¬ M 12 (26 + 4 * (k : Int)) < 3 ∧ psn 5 (M 12) = x := by
          by_cases z : M 12 (26 + 4 * (k : Int)) < 3
          · rw [if_pos z] at hv2
            exact Or.inl ⟨z, by rw [← hx, hv2]; rfl⟩
          · rw [if_neg z] at hv2
            refine Or.inr ⟨z, ?_⟩
            rw [← hx]
            congr 1
            funext j
            unfold us
            split
            · rename_i z2
              rw [z2, hv2]
              omega
            · rfl
        refine R_istore (q := 81) rfl rfl rfl ?_
        refine R_iload (q := 83) rfl rfl rfl ?_
        refine R_iload_n (q := 84) (i := 1) rfl rfl rfl rfl ?_
        refine R_icmp_le (q := 87) (tgt := 92) rfl rfl (by decide) (by omega) (by omega) (fun h84 => ?_) (fun h84 => ?_)
        · refine R_iinc (q := 95) rfl rfl rfl rfl ?_
          refine R_goto (q := 98) (tgt := 25) rfl rfl (by decide) ?_
          first
            | (have e : bhP (M 12) (k + 1) = ((k : Int), x) := by
                 rcases hc with ⟨z1, z2⟩ | ⟨z1, z2⟩
                 · rw [sp, z2]
                   exact if_pos ⟨z1, by omega⟩
                 · omega
               have := ih (k + 1) _ (wI x) (by omega) f5
               rw [e, ks] at this
               exact this)
            | (have e : bhP (M 12) (k + 1) = bhP (M 12) k := by
                 rw [sp]
                 exact if_neg (by omega)
               have := ih (k + 1) _ (wI x) (by omega) f5
               rw [e, ks] at this
               exact this)
        · refine R_iload_n (q := 88) (i := 3) rfl rfl rfl rfl ?_
          refine R_istore_n (q := 89) (i := 2) rfl rfl rfl rfl ?_
          refine R_iload (q := 91) rfl rfl rfl ?_
          refine R_istore_n (q := 92) (i := 1) rfl rfl rfl rfl ?_
          refine R_iinc (q := 95) rfl rfl rfl rfl ?_
          refine R_goto (q := 98) (tgt := 25) rfl rfl (by decide) ?_
          first
            | (have e : bhP (M 12) (k + 1) = ((k : Int), x) := by
                 rcases hc with ⟨z1, z2⟩ | ⟨z1, z2⟩
                 · rw [sp, z2]
                   exact if_pos ⟨z1, by omega⟩
                 · omega
               have := ih (k + 1) _ (wI x) (by omega) f5
               rw [e, ks] at this
               exact this)
            | (have e : bhP (M 12) (k + 1) = bhP (M 12) k := by
                 rw [sp]
                 exact if_neg (by omega)
               have := ih (k + 1) _ (wI x) (by omega) f5
               rw [e, ks] at this
               exact this)
  refine R_aload_n (q := 1) (i := 0) rfl rfl rfl rfl ?_
  refine R_getR (q := 4) rfl rfl rfl rfl rfl (by omega) ?_
  refine R_aload_n (q := 5) (i := 0) rfl rfl rfl rfl ?_
  refine R_getR (q := 8) rfl rfl rfl rfl rfl (by omega) ?_
  refine R_cV1N (q := 11) (ci := 4) (C := C_X4_copyFrom) rfl rfl rfl rfl rfl ⟨_, _, rfl, ⟨st37, st15, by omega, by rw [e7]; omega, by rw [e7]; omega⟩⟩ rfl (lay0 st37) (by omega) (fun M' hc => ?_)
  replace hc := hc _ _ rfl
  obtain ⟨r1, f1⟩ := hc
  refine R_aload_n (q := 12) (i := 0) rfl rfl rfl rfl ?_
  refine R_getR (q := 15) rfl rfl rfl rfl rfl (by omega) ?_
  refine R_iconst (q := 16) rfl rfl ?_
  refine R_gh (M 12) ?_
  refine R_cV1I (q := 19) (ci := 4) (C := C_X4_makeTurns) rfl rfl rfl rfl rfl ⟨_, _, rfl, ⟨si_gh st37 (r1 _ g.1.1) I, by omega⟩⟩ rfl (lay0 st37) (by omega) (fun x M' hc => ?_)
  replace hc := hc _ _ rfl
  obtain ⟨hx, -, f2⟩ := hc
  rw [gho_g] at hx
  have f2 := f1.tr f2.gh
  have hx : psn 5 (M 12) = x := hx
  subst hx
  refine R_istore_n (q := 20) (i := 1) rfl rfl rfl rfl ?_
  refine R_bipush (q := 22) rfl rfl (by decide) ?_
  refine R_istore_n (q := 23) (i := 2) rfl rfl rfl rfl ?_
  refine R_iconst (q := 24) rfl rfl ?_
  refine R_istore_n (q := 25) (i := 3) rfl rfl rfl rfl ?_
  exact L1 3 0 _ _ (by omega) f2
set_option maxRecDepth 100000 in
theorem mt_X6_bestHand : MtOK yX6_bestHand cX6_bestHand 5 (some .int) 6 C_X6_bestHand := by
  refine mt_of sx_X6_bestHand (by decide +kernel) (Or.inl ⟨rfl, rfl, rfl⟩) (by decide +kernel) fdX6_ok kLX6_ok kIX6_ok sgX6_ok ntX6_ok
    (all_cons (clokV mt_X4_copyFrom rfl (GT_at 507 (by decide +kernel) (by decide +kernel)) (GT_at 12 (by decide +kernel) (by decide +kernel)) (GT_at 252 (by decide +kernel) (by decide +kernel)) (by decide +kernel) (by decide) (GT_at 250 (by decide +kernel) (by decide +kernel)) (GT_at 251 (by decide +kernel) (by decide +kernel)) rfl rfl) (all_cons (clokV mt_X4_makeTurns rfl (GT_at 404 (by decide +kernel) (by decide +kernel)) (GT_at 12 (by decide +kernel) (by decide +kernel)) (GT_at 407 (by decide +kernel) (by decide +kernel)) (by decide +kernel) (by decide) (GT_at 405 (by decide +kernel) (by decide +kernel)) (GT_at 406 (by decide +kernel) (by decide +kernel)) rfl rfl) (all_nil))) ?_ ?_
  · rintro as M - ⟨o, rfl, hp⟩
    exact Nat.le_of_ble_eq_true rfl
  · rintro L scr as M - ⟨o, rfl, hp⟩
    exact Runs.mono (fun x M' h _ e => by cases e; exact h) (ok_X6_bestHand L scr o M hp)
