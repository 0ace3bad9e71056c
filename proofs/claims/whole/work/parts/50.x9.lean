theorem slot_st {s : Int} (h : s = 0 ∨ s = 1) : isSt (59 + 22 * s.toNat) := by
  unfold isSt
  rcases h with rfl | rfl <;> decide
abbrev C_X6_restore : Ct := (2, true, fun as M => ∃ (o : Nat) (s : Int), as = [wR o, wI s] ∧ (o = 3 ∧ GI M ∧ inr s), fun as M x M' => ∀ (o : Nat) (s : Int), as = [wR o, wI s] → (Bo C_X7_restore [wR 11, wI s] M M' x))
def sx_X6_restore : Sx := (tb_X6_restore, fdX6, kLX6, kIX6, sgX6, ntX6, [(41, (9, C_X6_isWithin)), (52, (1, C_X1_keep)), (204, (4, C_X4_copyFrom))], 1)
set_option maxRecDepth 100000 in
set_option maxHeartbeats 1000000 in
theorem ok_X6_restore (L : Nat) (scr : Int → Int) (o : Nat) (s : Int) (M : Mem) (hp : o = 3 ∧ GI M ∧ inr s) : Runs sx_X6_restore L (xcF scr) (fun x M' => Bo C_X7_restore [wR 11, wI s] M M' x) 0 [wR o, wI s] [] M := by
  obtain ⟨rfl, g, h1⟩ := hp
  have sz := g.sz
  have cm := g.cm
  have I := g.2.1.1
  by_cases hs : s = 0 ∨ s = 1
  · obtain ⟨s1, s2⟩ := g.1.2.2.2.2.1 s hs
    obtain ⟨s3, s4⟩ := g.2.2.2.2.1 s hs
    have sl := slot_st hs
    have hl7 : LAY L 7 = .inr (.inl (2, 2)) := rfl
    refine R_iload_n (q := 1) (i := 1) rfl rfl rfl rfl ?_
    refine R_iconst (q := 2) rfl rfl ?_
    refine R_iconst (q := 3) rfl rfl ?_
    refine R_cS3I (q := 6) (ci := 9) (C := C_X6_isWithin) rfl rfl rfl rfl rfl ⟨_, _, _, rfl, (by first | trivial | assumption | omega)⟩ rfl rfl (fun x M' hc => ?_)
    replace hc := hc _ _ _ rfl
    obtain ⟨w3, rfl⟩ := hc
    refine R_if_ne (q := 9) (tgt := 12) rfl rfl (by decide) (by omega) (fun h6 => ?_) (fun h6 => ?_)
    · refine R_aload_n (q := 13) (i := 0) rfl rfl rfl rfl ?_
      refine R_getR (q := 16) rfl rfl rfl rfl rfl (by omega) ?_
      refine R_iload_n (q := 17) (i := 1) rfl rfl rfl rfl ?_
      refine R_zald (q := 18) (v := M 13 s) rfl rfl hl7 (by omega) (by omega) s1 ?_
      refine R_if_ne (q := 21) (tgt := 24) rfl rfl (by decide) (by omega) (fun h18 => ?_) (fun h18 => ?_)
      · refine R_aload_n (q := 25) (i := 0) rfl rfl rfl rfl ?_
        refine R_getR (q := 28) rfl rfl rfl rfl rfl (by omega) ?_
        refine R_aload_n (q := 29) (i := 0) rfl rfl rfl rfl ?_
        refine R_getR (q := 32) rfl rfl rfl rfl rfl (by omega) ?_
        refine R_cV1N (q := 35) (ci := 1) (C := C_X1_keep) rfl rfl rfl rfl rfl ⟨_, _, rfl, ⟨rfl, rfl, g.1.2.1, sz, cm⟩⟩ rfl rfl (by omega) (fun M' hc => ?_)
        replace hc := hc _ _ rfl
        generalize M' = M1 at hc ⊢
        have hk : Kp4 M M1 := hc
        have z1 : M 13 s = 1 := by omega
        have r1 := hk.r0 (by omega) (s2 z1)
        have O := s4 z1
        have i7 := O.1.i7
        refine R_aload_n (q := 36) (i := 0) rfl rfl rfl rfl ?_
        refine R_getR (q := 39) rfl rfl rfl rfl rfl (by omega) ?_
        refine R_aload_n (q := 40) (i := 0) rfl rfl rfl rfl ?_
        refine R_getR (q := 43) rfl rfl rfl rfl rfl (by omega) ?_
        refine R_iload_n (q := 44) (i := 1) rfl rfl rfl rfl ?_
        refine R_aald (q := 45) (r2 := 59 + 22 * s.toNat) rfl rfl rfl (by omega) (by omega) rfl ?_
        refine R_cV1N (q := 48) (ci := 4) (C := C_X4_copyFrom) rfl rfl rfl rfl rfl ⟨_, _, rfl, ⟨st15, sl, by omega, by rw [r1.ca]; omega, by rw [r1.ca]; omega⟩⟩ rfl (lay0 st15) (by omega) (fun M' hc => ?_)
        replace hc := hc _ _ rfl
        obtain ⟨r2, f2⟩ := hc
        have r2 := r2 _ r1
        refine R_aload_n (q := 49) (i := 0) rfl rfl rfl rfl ?_
        refine R_getR (q := 52) rfl rfl rfl rfl rfl (by omega) ?_
        refine R_getI (q := 55) (k1 := 5) rfl rfl rfl (lay0 st15) rfl (by omega) rfl ?_
        refine R_ret rfl (Or.inl rfl) ?_
        refine Bo_chg g hk f2 r2 O (fun y N q => ?_)
        have e12 := hk.e12 f2 (r := 12) (by omega) (by omega)
        have e13 := hk.e12 f2 (r := 13) (by omega) (by omega)
        rcases q 11 s rfl with ⟨z, _⟩ | ⟨_, z, _⟩ | ⟨_, _, z2, z3, z4, z5⟩
        · exact absurd hs z
        · rw [e13] at z
          omega
        · rw [e12] at z2 z3
          exact ⟨by rw [z2]; exact r2.tm, _, Wn.rf, z3, z4, z5⟩
      · refine R_bipush (q := 23) rfl rfl (by decide) ?_
        refine R_ret rfl (Or.inl rfl) ?_
        refine Bo_sm g SmC.rf (fun y N q => ?_)
        rcases q 11 s rfl with ⟨z, _⟩ | ⟨_, _, z, rfl⟩ | ⟨_, z, _⟩
        · exact absurd hs z
        · exact ⟨z.symm, SmR.rf⟩
        · omega
    · omega
  · refine R_iload_n (q := 1) (i := 1) rfl rfl rfl rfl ?_
    refine R_iconst (q := 2) rfl rfl ?_
    refine R_iconst (q := 3) rfl rfl ?_
    refine R_cS3I (q := 6) (ci := 9) (C := C_X6_isWithin) rfl rfl rfl rfl rfl ⟨_, _, _, rfl, (by first | trivial | assumption | omega)⟩ rfl rfl (fun x M' hc => ?_)
    replace hc := hc _ _ _ rfl
    obtain ⟨w3, rfl⟩ := hc
    refine R_if_ne (q := 9) (tgt := 12) rfl rfl (by decide) (by omega) (fun h6 => ?_) (fun h6 => ?_)
    · omega
    · refine R_bipush (q := 11) rfl rfl (by decide) ?_
      refine R_ret rfl (Or.inl rfl) ?_
      refine Bo_sm g SmC.rf (fun y N q => ?_)
      rcases q 11 s rfl with ⟨_, z, rfl⟩ | ⟨z, _⟩ | ⟨z, _⟩
      · exact ⟨z.symm, SmR.rf⟩
      · exact absurd z hs
      · exact absurd z hs
set_option maxRecDepth 100000 in
theorem mt_X6_restore : MtOK yX6_restore cX6_restore 2 (some .int) 3 C_X6_restore := by
  refine mt_of sx_X6_restore (by decide +kernel) (Or.inl ⟨rfl, rfl, rfl⟩) (by decide +kernel) fdX6_ok kLX6_ok kIX6_ok sgX6_ok ntX6_ok
    (all_cons (clokS mt_X6_isWithin (GT_at 250 (by decide +kernel) (by decide +kernel)) (GT_at 38 (by decide +kernel) (by decide +kernel)) (GT_at 252 (by decide +kernel) (by decide +kernel)) (by decide +kernel) (by decide) (GT_at 251 (by decide +kernel) (by decide +kernel))) (all_cons (clokV mt_X1_keep rfl (GT_at 257 (by decide +kernel) (by decide +kernel)) (GT_at 42 (by decide +kernel) (by decide +kernel)) (GT_at 260 (by decide +kernel) (by decide +kernel)) (by decide +kernel) (by decide) (GT_at 258 (by decide +kernel) (by decide +kernel)) (GT_at 259 (by decide +kernel) (by decide +kernel)) rfl rfl) (all_cons (clokV mt_X4_copyFrom rfl (GT_at 485 (by decide +kernel) (by decide +kernel)) (GT_at 39 (by decide +kernel) (by decide +kernel)) (GT_at 264 (by decide +kernel) (by decide +kernel)) (by decide +kernel) (by decide) (GT_at 262 (by decide +kernel) (by decide +kernel)) (GT_at 263 (by decide +kernel) (by decide +kernel)) rfl rfl) (all_nil)))) ?_ ?_
  · rintro as M - ⟨o, s, rfl, hp⟩
    exact Nat.le_of_ble_eq_true rfl
  · rintro L scr as M - ⟨o, s, rfl, hp⟩
    exact Runs.mono (fun x M' h _ _ e => by cases e; exact h) (ok_X6_restore L scr o s M hp)
abbrev C_X6_undo : Ct := (1, true, fun as M => ∃ (o : Nat), as = [wR o] ∧ (o = 3 ∧ GI M), fun as M x M' => ∀ (o : Nat), as = [wR o] → (Bo C_X7_undo [wR 11] M M' x))
def sx_X6_undo : Sx := (tb_X6_undo, fdX6, kLX6, kIX6, sgX6, ntX6, [(224, (1, C_X1_takeBack))], 1)
set_option maxRecDepth 100000 in
set_option maxHeartbeats 1000000 in
theorem ok_X6_undo (L : Nat) (scr : Int → Int) (o : Nat) (M : Mem) (hp : o = 3 ∧ GI M) : Runs sx_X6_undo L (xcF scr) (fun x M' => Bo C_X7_undo [wR 11] M M' x) 0 [wR o] [] M := by
  obtain ⟨rfl, g⟩ := hp
  have sz := g.sz
  have I := g.2.1.1
  have e4 : M 4 2 = M 11 1 := g.1.2.2.1
  refine R_aload_n (q := 1) (i := 0) rfl rfl rfl rfl ?_
  refine R_getR (q := 4) rfl rfl rfl rfl rfl (by omega) ?_
  refine R_getI (q := 7) (k1 := 2) rfl rfl rfl rfl rfl (by omega) rfl ?_
  refine R_if_ne (q := 10) (tgt := 13) rfl rfl (by decide) (by omega) (fun h7 => ?_) (fun h7 => ?_)
  · refine R_aload_n (q := 14) (i := 0) rfl rfl rfl rfl ?_
    refine R_getR (q := 17) rfl rfl rfl rfl rfl (by omega) ?_
    refine R_aload_n (q := 18) (i := 0) rfl rfl rfl rfl ?_
    refine R_getR (q := 21) rfl rfl rfl rfl rfl (by omega) ?_
    have h1 : 1 ≤ M 11 1 ∧ M 11 1 ≤ 4 := by omega
    have r1 := g.1.2.2.2.1 (M 11 1) h1.1 (by omega)
    have O := g.2.2.2.1 (M 11 1) h1.1 (by omega)
    have i7 := O.1.i7
    have rs := ring_st M (M 11 1 - 1)
    have ec := r1.ca
    refine R_cV1N (q := 24) (ci := 1) (C := C_X1_takeBack) rfl rfl rfl rfl rfl ⟨_, _, rfl, ⟨rfl, rfl, g.1.2.1, by omega, by rw [e4, ec]; omega, by rw [e4, ec]; omega⟩⟩ rfl rfl (by omega) (fun M' hc => ?_)
    replace hc := hc _ _ rfl
    obtain ⟨c1, c2, c3, c4⟩ := hc
    rw [e4] at c1 c3
    have r2 := c1 _ r1
    generalize M' = M1 at r2 c2 c3 c4 ⊢
    refine R_aload_n (q := 25) (i := 0) rfl rfl rfl rfl ?_
    refine R_getR (q := 28) rfl rfl rfl rfl rfl (by omega) ?_
    refine R_getI (q := 31) (k1 := 2) rfl rfl rfl rfl rfl (by omega) rfl ?_
    refine R_ret rfl (Or.inl rfl) ?_
    refine ⟨fun r a b => c2 r (by omega) (by omega) (by omega), fun y N q => ?_⟩
    have e11 : M1 11 = M 11 := c2 11 (by omega) (by omega) (by omega)
    have e12 : M1 12 = M 12 := c2 12 (by omega) (by omega) (by omega)
    have e13 : M1 13 = M 13 := c2 13 (by omega) (by omega) (by omega)
    have e14 : M1 14 = M 14 := c2 14 (by omega) (by omega) (by omega)
    rcases q 11 rfl with ⟨z, _⟩ | ⟨_, z, rfl⟩
    · rw [e11] at z
      omega
    · rw [e11] at z ⊢
      refine ⟨by rw [c3, z], ?_⟩
      obtain ⟨N, hN⟩ : ∃ N, N = upM (cpM M1 12 (662 * M 11 1) 12 0 662) 11 1 (M 11 1 - 1) := ⟨_, rfl⟩
      rw [← hN]
      have n1 : N 11 1 = M 11 1 - 1 := by rw [hN, upM_s]
      have n4 : N 11 4 = M 11 4 := by rw [hN, upM_k (by omega), cp_r (by omega), e11]
      have nR : ∀ r, r ≠ 11 → r ≠ 12 → N r = M1 r := fun r a b => by rw [hN, upM_r a, cp_r b]
      have n0 : ∀ i, 0 ≤ i → i < 662 → N 12 i = sh (662 * M 11 1) (M 12) i := fun i a b => by
        rw [hN, upM_r (by omega), cp_p (by omega), e12]
        show M 12 (662 * M 11 1 + (i - 0)) = M 12 (662 * M 11 1 + i)
        rw [Int.sub_zero]
      have nh : ∀ i, 662 ≤ i → N 12 i = M 12 i := fun i a => by rw [hN, upM_r (by omega), cp_n (by omega), e12]
      have nS : ∀ j, 1 ≤ j → ∀ i, 0 ≤ i → i < 662 → sh (662 * j) (N 12) i = sh (662 * j) (M 12) i := fun j a i b _ => nh (662 * j + i) (by omega)
      have m : ∀ r, r < 191 → r ≠ 4 → r ≠ 11 → r ≠ 12 → (r < 15 ∨ 37 ≤ r) → N r = M r := fun r a b c d e => (nR r c d).trans (c2 r a b e)
      have k4 : N 4 = M1 4 := nR 4 (by omega) (by omega)
      obtain ⟨⟨-, d2, d3, d4, d5, d6, d7⟩, p1, p2, p3, p4, p5, p6⟩ := g
      refine ⟨⟨r2.mv (fun r a b => nR r (by omega) (by omega)) n0, by rw [k4, c4]; exact d2, by rw [k4, c3, n1], fun j a b => ?_, fun t a => ?_, ?_, ?_⟩, O.wn n0, by rw [n1]; omega, fun j a b => ?_, fun t a => ?_, ?_⟩
      · rw [n1] at b
        have rb := ring_b M (j - 1)
        rw [ring_e (by rw [k4, c4])]
        exact (d4 j a (by omega)).mv (fun r x y => m r (by omega) (by omega) (by omega) (by omega) (by omega)) (nS j a)
      · rw [m 7 (by omega) (by omega) (by omega) (by omega) (by omega), m 13 (by omega) (by omega) (by omega) (by omega) (by omega)]
        exact ⟨(d5 t a).1, fun z => ((d5 t a).2 z).mv (fun r x y => m r (by omega) (by omega) (by omega) (by omega) (by omega)) (nS _ (by omega))⟩
      · rw [m 8 (by omega) (by omega) (by omega) (by omega) (by omega), n4]
        exact d6
      · rw [m 9 (by omega) (by omega) (by omega) (by omega) (by omega), n4, m 14 (by omega) (by omega) (by omega) (by omega) (by omega)]
        exact d7
      · rw [n1] at b
        exact (p3 j a (by omega)).wn (nS j a)
      · rw [m 13 (by omega) (by omega) (by omega) (by omega) (by omega)]
        exact ⟨(p4 t a).1, fun z => ((p4 t a).2 z).wn (nS _ (by omega))⟩
      · unfold PdM
        rw [n4, m 14 (by omega) (by omega) (by omega) (by omega) (by omega)]
        exact ⟨p5, p6⟩
  · refine R_bipush (q := 12) rfl rfl (by decide) ?_
    refine R_ret rfl (Or.inl rfl) ?_
    refine Bo_sm g SmC.rf (fun y N q => ?_)
    rcases q 11 rfl with ⟨_, z, rfl⟩ | ⟨z, _⟩
    · exact ⟨z.symm, SmR.rf⟩
    · omega
set_option maxRecDepth 100000 in
theorem mt_X6_undo : MtOK yX6_undo cX6_undo 1 (some .int) 3 C_X6_undo := by
  refine mt_of sx_X6_undo (by decide +kernel) (Or.inl ⟨rfl, rfl, rfl⟩) (by decide +kernel) fdX6_ok kLX6_ok kIX6_ok sgX6_ok ntX6_ok
    (all_cons (clokV mt_X1_takeBack rfl (GT_at 537 (by decide +kernel) (by decide +kernel)) (GT_at 42 (by decide +kernel) (by decide +kernel)) (GT_at 540 (by decide +kernel) (by decide +kernel)) (by decide +kernel) (by decide) (GT_at 538 (by decide +kernel) (by decide +kernel)) (GT_at 539 (by decide +kernel) (by decide +kernel)) rfl rfl) (all_nil)) ?_ ?_
  · rintro as M - ⟨o, rfl, hp⟩
    exact Nat.le_of_ble_eq_true rfl
  · rintro L scr as M - ⟨o, rfl, hp⟩
    exact Runs.mono (fun x M' h _ e => by cases e; exact h) (ok_X6_undo L scr o M hp)
abbrev C_X6_save : Ct := (2, true, fun as M => ∃ (o : Nat) (s : Int), as = [wR o, wI s] ∧ (o = 3 ∧ GI M ∧ inr s), fun as M x M' => ∀ (o : Nat) (s : Int), as = [wR o, wI s] → (Bo C_X7_save [wR 11, wI s] M M' x))
def sx_X6_save : Sx := (tb_X6_save, fdX6, kLX6, kIX6, sgX6, ntX6, [(41, (9, C_X6_isWithin)), (204, (4, C_X4_copyFrom))], 1)
set_option maxRecDepth 100000 in
set_option maxHeartbeats 1000000 in
theorem ok_X6_save (L : Nat) (scr : Int → Int) (o : Nat) (s : Int) (M : Mem) (hp : o = 3 ∧ GI M ∧ inr s) : Runs sx_X6_save L (xcF scr) (fun x M' => Bo C_X7_save [wR 11, wI s] M M' x) 0 [wR o, wI s] [] M := by
  obtain ⟨rfl, g, h1⟩ := hp
  have I := g.2.1.1
  have i7 := g.i7
  have e7 : M (15 + 11) 0 = M 12 7 := g.1.1.ca
  by_cases hs : s = 0 ∨ s = 1
  · have sl := slot_st hs
    have hl7 : LAY L 7 = .inr (.inl (2, 2)) := rfl
    obtain ⟨b, hb⟩ : ∃ b, b = 59 + 22 * s.toNat := ⟨_, rfl⟩
    have hs2 := hs
    refine R_iload_n (q := 1) (i := 1) rfl rfl rfl rfl ?_
    refine R_iconst (q := 2) rfl rfl ?_
    refine R_iconst (q := 3) rfl rfl ?_
    refine R_cS3I (q := 6) (ci := 9) (C := C_X6_isWithin) rfl rfl rfl rfl rfl ⟨_, _, _, rfl, (by first | trivial | assumption | omega)⟩ rfl rfl (fun x M' hc => ?_)
    replace hc := hc _ _ _ rfl
    obtain ⟨w3, rfl⟩ := hc
    refine R_if_ne (q := 9) (tgt := 12) rfl rfl (by decide) (by omega) (fun h6 => ?_) (fun h6 => ?_)
    · refine R_aload_n (q := 13) (i := 0) rfl rfl rfl rfl ?_
      refine R_getR (q := 16) rfl rfl rfl rfl rfl (by omega) ?_
      refine R_iload_n (q := 17) (i := 1) rfl rfl rfl rfl ?_
      refine R_aald (q := 18) (r2 := 59 + 22 * s.toNat) rfl rfl rfl (by omega) (by omega) rfl ?_
      refine R_aload_n (q := 19) (i := 0) rfl rfl rfl rfl ?_
      refine R_getR (q := 22) rfl rfl rfl rfl rfl (by omega) ?_
      refine R_cV1N (q := 25) (ci := 4) (C := C_X4_copyFrom) rfl rfl rfl rfl rfl ⟨_, _, rfl, ⟨sl, st15, by omega, by rw [e7]; omega, by rw [e7]; omega⟩⟩ rfl (lay0 sl) (by omega) (fun M' hc => ?_)
      replace hc := hc _ _ rfl
      obtain ⟨r1, f1⟩ := hc
      rw [← hb] at r1 f1
      have r1 := r1 _ g.1.1
      have b15 : 59 ≤ b ∧ b ≤ 81 := by omega
      have r0 : RelS M' 15 (M 12) := g.1.1.off (fun r x y => f1 r (by omega) (by omega))
      refine R_aload_n (q := 26) (i := 0) rfl rfl rfl rfl ?_
      refine R_getR (q := 29) rfl rfl rfl rfl rfl (by omega) ?_
      refine R_iload_n (q := 30) (i := 1) rfl rfl rfl rfl ?_
      refine R_iconst (q := 31) rfl rfl ?_
      refine R_zast (q := 32) rfl rfl hl7 (by omega) (by omega) (Or.inr rfl) rfl ?_
      refine R_aload_n (q := 33) (i := 0) rfl rfl rfl rfl ?_
      refine R_getR (q := 36) rfl rfl rfl rfl rfl (by omega) ?_
      refine R_getI (q := 39) (k1 := 5) rfl rfl rfl (lay0 st15) rfl (by omega) rfl ?_
      refine R_ret rfl (Or.inl rfl) ?_
      have ex : upM M' 7 s 1 15 5 = M 12 6 := (congrFun (upM_r (by omega)) 5).trans r0.tm
      refine ⟨fun r x y => by rw [upM_r (by omega), f1 r (by omega) (by omega)], fun y N q => ?_⟩
      rw [ex]
      have fr : ∀ r, r < 191 → r ≠ 7 → (r < b ∨ b + 22 ≤ r) → upM M' 7 s 1 r = M r := fun r x1 x2 x3 => by rw [upM_r x2, f1 r x1 x3]
      have u7 : ∀ k, upM M' 7 s 1 7 k = if k = s then 1 else M 7 k := fun k => by
        by_cases z : k = s
        · rw [z, upM_s, if_pos rfl]
        · rw [upM_k z, if_neg z, f1 7 (by omega) (by omega)]
      have r2 : RelS (upM M' 7 s 1) b (M 12) := r1.off (fun r x1 x2 => upM_r (by omega))
      generalize upM M' 7 s 1 = M1 at q fr u7 r2
      have e12 : M1 12 = M 12 := fr 12 (by omega) (by omega) (by omega)
      rcases q 11 s rfl with ⟨z, _⟩ | ⟨_, z, rfl⟩
      · exact absurd hs z
      · rw [e12] at z
        refine ⟨z.symm, ?_⟩
        obtain ⟨N, hN⟩ : ∃ N, N = upM (cpM M1 12 0 12 (662 * (5 + s)) 662) 13 s 1 := ⟨_, rfl⟩
        rw [← hN]
        have nR : ∀ r, r ≠ 13 → r ≠ 12 → N r = M1 r := fun r x1 x2 => by rw [hN, upM_r x1, cp_r x2]
        have n13 : ∀ k, N 13 k = if k = s then 1 else M 13 k := fun k => by
          by_cases z : k = s
          · rw [z, hN, upM_s, if_pos rfl]
          · rw [hN, upM_k z, if_neg z, cp_r (by omega), fr 13 (by omega) (by omega) (by omega)]
        have nS : ∀ i, 0 ≤ i → i < 662 → sh (662 * (5 + s)) (N 12) i = M 12 i := fun i x1 x2 => by
          show N 12 (662 * (5 + s) + i) = M 12 i
          rw [hN, upM_r (by omega), cp_p (by omega), e12]
          congr 1
          omega
        have nO : ∀ i, i < 662 * (5 + s) ∨ 662 * (6 + s) ≤ i → N 12 i = M 12 i := fun i x1 => by rw [hN, upM_r (by omega), cp_n (by omega), e12]
        have m : ∀ r, r < 191 → r ≠ 7 → r ≠ 12 → r ≠ 13 → (r < b ∨ b + 22 ≤ r) → N r = M r := fun r x1 x2 x3 x4 x5 => (nR r x4 x3).trans (fr r x1 x2 x5)
        have m11 : N 11 = M 11 := m 11 (by omega) (by omega) (by omega) (by omega) (by omega)
        have m4 : N 4 = M 4 := m 4 (by omega) (by omega) (by omega) (by omega) (by omega)
        have m8 : N 8 = M 8 := m 8 (by omega) (by omega) (by omega) (by omega) (by omega)
        have m9 : N 9 = M 9 := m 9 (by omega) (by omega) (by omega) (by omega) (by omega)
        have m14 : N 14 = M 14 := m 14 (by omega) (by omega) (by omega) (by omega) (by omega)
        have m7 : N 7 = M1 7 := nR 7 (by omega) (by omega)
        obtain ⟨⟨d1, d2, d3, d4, d5, d6, d7⟩, p1, p2, p3, p4, p5⟩ := g
        refine ⟨⟨d1.mv (fun r x1 x2 => m r (by omega) (by omega) (by omega) (by omega) (by omega)) (fun i x1 x2 => nO i (by omega)), by rw [m4]; exact d2, by rw [m4, m11]; exact d3, fun j x1 x2 => ?_, fun t ht => ?_, by rw [m8, m11]; exact d6, by rw [m9, m11, m14]; exact d7⟩, p1.wn (fun i x1 x2 => nO i (by omega)), by rw [m11]; exact p2, fun j x1 x2 => ?_, fun t ht => ?_, ?_⟩
        · rw [m11] at x2
          have rb := ring_b M (j - 1)
          rw [ring_e (congrFun m4 1)]
          exact (d4 j x1 x2).mv (fun r y1 y2 => m r (by omega) (by omega) (by omega) (by omega) (by omega)) (fun i y1 y2 => nO _ (by omega))
        · rw [m7, u7, n13]
          by_cases z : t = s
          · subst z
            rw [if_pos rfl, if_pos rfl]
            refine ⟨rfl, fun _ => ?_⟩
            rw [← hb]
            exact r2.mv (fun r y1 y2 => nR r (by omega) (by omega)) nS
          · rw [if_neg z, if_neg z]
            refine ⟨(d5 t ht).1, fun z2 => ((d5 t ht).2 z2).mv (fun r y1 y2 => m r (by omega) (by omega) (by omega) (by omega) (by omega)) (fun i y1 y2 => nO _ (by omega))⟩
        · rw [m11] at x2
          exact (p3 j x1 x2).wn (fun i y1 y2 => nO _ (by omega))
        · rw [n13]
          by_cases z : t = s
          · subst z
            rw [if_pos rfl]
            exact ⟨Or.inr rfl, fun _ => p1.wn nS⟩
          · rw [if_neg z]
            exact ⟨(p4 t ht).1, fun z2 => ((p4 t ht).2 z2).wn (fun i y1 y2 => nO _ (by omega))⟩
        · unfold PdM
          rw [m11, m14]
          exact p5
    · omega
  · refine R_iload_n (q := 1) (i := 1) rfl rfl rfl rfl ?_
    refine R_iconst (q := 2) rfl rfl ?_
    refine R_iconst (q := 3) rfl rfl ?_
    refine R_cS3I (q := 6) (ci := 9) (C := C_X6_isWithin) rfl rfl rfl rfl rfl ⟨_, _, _, rfl, (by first | trivial | assumption | omega)⟩ rfl rfl (fun x M' hc => ?_)
    replace hc := hc _ _ _ rfl
    obtain ⟨w3, rfl⟩ := hc
    refine R_if_ne (q := 9) (tgt := 12) rfl rfl (by decide) (by omega) (fun h6 => ?_) (fun h6 => ?_)
    · omega
    · refine R_bipush (q := 11) rfl rfl (by decide) ?_
      refine R_ret rfl (Or.inl rfl) ?_
      refine Bo_sm g SmC.rf (fun y N q => ?_)
      rcases q 11 s rfl with ⟨_, z, rfl⟩ | ⟨z, _⟩
      · exact ⟨z.symm, SmR.rf⟩
      · exact absurd z hs
set_option maxRecDepth 100000 in
theorem mt_X6_save : MtOK yX6_save cX6_save 2 (some .int) 2 C_X6_save := by
  refine mt_of sx_X6_save (by decide +kernel) (Or.inl ⟨rfl, rfl, rfl⟩) (by decide +kernel) fdX6_ok kLX6_ok kIX6_ok sgX6_ok ntX6_ok
    (all_cons (clokS mt_X6_isWithin (GT_at 250 (by decide +kernel) (by decide +kernel)) (GT_at 38 (by decide +kernel) (by decide +kernel)) (GT_at 252 (by decide +kernel) (by decide +kernel)) (by decide +kernel) (by decide) (GT_at 251 (by decide +kernel) (by decide +kernel))) (all_cons (clokV mt_X4_copyFrom rfl (GT_at 485 (by decide +kernel) (by decide +kernel)) (GT_at 39 (by decide +kernel) (by decide +kernel)) (GT_at 264 (by decide +kernel) (by decide +kernel)) (by decide +kernel) (by decide) (GT_at 262 (by decide +kernel) (by decide +kernel)) (GT_at 263 (by decide +kernel) (by decide +kernel)) rfl rfl) (all_nil))) ?_ ?_
  · rintro as M - ⟨o, s, rfl, hp⟩
    exact Nat.le_of_ble_eq_true rfl
  · rintro L scr as M - ⟨o, s, rfl, hp⟩
    exact Runs.mono (fun x M' h _ _ e => by cases e; exact h) (ok_X6_save L scr o s M hp)
