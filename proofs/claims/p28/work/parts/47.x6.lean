/-! what if: the class's trial -/
theorem wn_tau {M M1 : Mem} (e : M1 12 = M 12) : Wn (tau M1) (M 12) := fun i a b => by rw [tau_w i a b, e]
theorem Wn.unt_ {t : Int} (ht : 0 ≤ t ∧ t < 64) : ∀ (n : Nat) (k : Int) (f g : Int → Int), Wn g f → Inv f → unt t n k g = unt t n k f
  | 0, _, _, _, _, _ => rfl
  | n + 1, k, f, g, h, I => by
    unfold unt
    rw [h (90 + 9 * t) (by omega) (by omega), Wn.unt_ ht n (k + 1) (tn1 f) (tn1 g) (h.tn1_ I) (tn1_Inv I).1]
theorem Wn.unf_ {t : Int} (ht : 0 ≤ t ∧ t < 64) : ∀ (n : Nat) (f g : Int → Int), Wn g f → Inv f → Wn (unf t n g) (unf t n f)
  | 0, _, _, h, _ => h
  | n + 1, f, g, h, I => by
    unfold unf
    rw [h (90 + 9 * t) (by omega) (by omega)]
    by_cases e : f (90 + 9 * t) = 0
    · rw [if_pos e, if_pos e]
      exact Wn.unf_ ht n (tn1 f) (tn1 g) (h.tn1_ I) (tn1_Inv I).1
    · rw [if_neg e, if_neg e]
      exact h
theorem Kp7 : Kp 7 := by unfold Kp; omega
abbrev C_X6_turnsUntilGone : Ct := (2, true, fun as M => ∃ (o : Nat) (t : Int), as = [wR o, wI t] ∧ (o = 3 ∧ RelS M 15 (M 12) ∧ Inv (M 12) ∧ inr t ∧ 0 ≤ t ∧ t < M 12 7), fun as M x M' => ∀ (o : Nat) (t : Int), as = [wR o, wI t] → (unt t 201 0 (M 12) = x ∧ RelS M' 37 (unf t 201 (M 12)) ∧ FrS M M' 37))
def sx_X6_turnsUntilGone : Sx := (tb_X6_turnsUntilGone, fdX6, kLX6, kIX6, sgX6, ntX6, [(204, (4, C_X4_copyFrom)), (104, (4, C_X4_isWaiting)), (227, (4, C_X4_makeTurn))], 1)
set_option maxRecDepth 100000 in
set_option maxHeartbeats 1000000 in
theorem ok_X6_turnsUntilGone (L : Nat) (scr : Int → Int) (o : Nat) (t : Int) (M : Mem) (hp : o = 3 ∧ RelS M 15 (M 12) ∧ Inv (M 12) ∧ inr t ∧ 0 ≤ t ∧ t < M 12 7) : Runs sx_X6_turnsUntilGone L (xcF scr) (fun x M' => unt t 201 0 (M 12) = x ∧ RelS M' 37 (unf t 201 (M 12)) ∧ FrS M M' 37) 0 [wR o, wI t, none] [] M := by
  obtain ⟨rfl, r0, I, h1, h2, h3⟩ := hp
  have i7 := I.i7
  have e7 : M 26 0 = M 12 7 := r0.ca
  have L1 : ∀ (V : Int) (W : Int → Int) (n : Nat) (k : Int) (N : Mem) (f : Int → Int), 0 ≤ k → k + n = 201 → RelS N 37 f → Inv f → f 7 = M 12 7 → FrS M N 37 → unt t n k f = V → unf t n f = W →
      Runs sx_X6_turnsUntilGone L (xcF scr) (fun x M' => V = x ∧ RelS M' 37 W ∧ FrS M M' 37) 13 [wR 3, wI t, wI k] [] N := by
    intro V W n
    induction n with
    | zero =>
      intro k N f k0 hk r1 I1 f7 f1 hV hW
      refine R_iload_n (q := 14) (i := 2) rfl rfl rfl rfl ?_
      refine R_sipush (q := 17) rfl rfl (by decide) ?_
      refine R_icmp_gt (q := 20) (tgt := 47) rfl rfl (by decide) (by omega) (by omega) (fun h17 => ?_) (fun h17 => ?_)
      · refine R_bipush (q := 49) rfl rfl (by decide) ?_
        refine R_ret rfl (Or.inl rfl) ?_
        exact ⟨hV.symm, by rw [← hW]; exact r1, f1⟩
      · omega
    | succ n ih =>
      intro k N f k0 hk r1 I1 f7 f1 hV hW
      unfold unt at hV
      unfold unf at hW
      refine R_iload_n (q := 14) (i := 2) rfl rfl rfl rfl ?_
      refine R_sipush (q := 17) rfl rfl (by decide) ?_
      refine R_icmp_gt (q := 20) (tgt := 47) rfl rfl (by decide) (by omega) (by omega) (fun h17 => ?_) (fun h17 => ?_)
      · omega
      · refine R_aload_n (q := 21) (i := 0) rfl rfl rfl rfl ?_
        refine R_getR (q := 24) rfl rfl rfl rfl rfl (by omega) ?_
        refine R_iload_n (q := 25) (i := 1) rfl rfl rfl rfl ?_
        refine R_gh (f) ?_
        refine R_cV1I (q := 28) (ci := 4) (C := C_X4_isWaiting) rfl rfl rfl rfl rfl ⟨_, _, rfl, ⟨si_gh st37 r1 I1, h1⟩⟩ rfl (lay0 st37) (by omega) (fun x M' hc => ?_)
        replace hc := hc _ _ rfl
        obtain ⟨hc, rfl⟩ := hc
        rw [gho_g] at hc
        replace hc := w01 hc
        refine R_un ?_
        refine R_if_ne (q := 31) (tgt := 33) rfl rfl (by decide) (by omega) (fun h28 => ?_) (fun h28 => ?_)
        · refine R_aload_n (q := 34) (i := 0) rfl rfl rfl rfl ?_
          refine R_getR (q := 37) rfl rfl rfl rfl rfl (by omega) ?_
          refine R_gh (f) ?_
          refine R_cV0I (q := 40) (ci := 4) (C := C_X4_makeTurn) rfl rfl rfl rfl rfl ⟨_, rfl, si_gh st37 r1 I1⟩ rfl (lay0 st37) (by omega) (fun x M' hc => ?_)
          replace hc := hc _ rfl
          obtain ⟨-, r2, f2⟩ := hc
          rw [gho_g] at r2
          have f2 := f1.tr f2.gh
          have e0 : f (90 + 9 * t) = 0 := by omega
          rw [if_pos e0] at hV hW
          obtain ⟨I2, k2, -⟩ := tn1_Inv I1
          have f72 := (k2 7 Kp7).trans f7
          refine R_pop (q := 41) rfl rfl rfl ?_
          refine R_iinc (q := 44) rfl rfl rfl rfl ?_
          refine R_goto (q := 47) (tgt := 13) rfl rfl (by decide) ?_
          exact ih (k + 1) _ (tn1 f) (by omega) (by omega) r2 I2 f72 f2 hV hW
        · refine R_iload_n (q := 32) (i := 2) rfl rfl rfl rfl ?_
          refine R_ret rfl (Or.inl rfl) ?_
          have e0 : f (90 + 9 * t) ≠ 0 := by omega
          rw [if_neg e0] at hV hW
          exact ⟨hV.symm, by rw [← hW]; exact r1, f1⟩
  refine R_aload_n (q := 1) (i := 0) rfl rfl rfl rfl ?_
  refine R_getR (q := 4) rfl rfl rfl rfl rfl (by omega) ?_
  refine R_aload_n (q := 5) (i := 0) rfl rfl rfl rfl ?_
  refine R_getR (q := 8) rfl rfl rfl rfl rfl (by omega) ?_
  refine R_cV1N (q := 11) (ci := 4) (C := C_X4_copyFrom) rfl rfl rfl rfl rfl ⟨_, _, rfl, ⟨st37, st15, by omega, by rw [show M (15 + 11) 0 = M 12 7 from e7]; omega, by rw [show M (15 + 11) 0 = M 12 7 from e7]; omega⟩⟩ rfl (lay0 st37) (by omega) (fun M' hc => ?_)
  replace hc := hc _ _ rfl
  obtain ⟨r1, f1⟩ := hc
  refine R_iconst (q := 12) rfl rfl ?_
  refine R_istore_n (q := 13) (i := 2) rfl rfl rfl rfl ?_
  exact L1 _ _ 201 0 _ (M 12) (by omega) (by omega) (r1 _ r0) I rfl f1 rfl rfl
set_option maxRecDepth 100000 in
theorem mt_X6_turnsUntilGone : MtOK yX6_turnsUntilGone cX6_turnsUntilGone 3 (some .int) 5 C_X6_turnsUntilGone := by
  refine mt_of sx_X6_turnsUntilGone (by decide +kernel) (Or.inl ⟨rfl, rfl, rfl⟩) (by decide +kernel) fdX6_ok kLX6_ok kIX6_ok sgX6_ok ntX6_ok
    (all_cons (clokV mt_X4_copyFrom rfl (GT_at 507 (by decide +kernel) (by decide +kernel)) (GT_at 12 (by decide +kernel) (by decide +kernel)) (GT_at 252 (by decide +kernel) (by decide +kernel)) (by decide +kernel) (by decide) (GT_at 250 (by decide +kernel) (by decide +kernel)) (GT_at 251 (by decide +kernel) (by decide +kernel)) rfl rfl) (all_cons (clokV mt_X4_isWaiting rfl (GT_at 360 (by decide +kernel) (by decide +kernel)) (GT_at 12 (by decide +kernel) (by decide +kernel)) (GT_at 363 (by decide +kernel) (by decide +kernel)) (by decide +kernel) (by decide) (GT_at 361 (by decide +kernel) (by decide +kernel)) (GT_at 362 (by decide +kernel) (by decide +kernel)) rfl rfl) (all_cons (clokV mt_X4_makeTurn rfl (GT_at 516 (by decide +kernel) (by decide +kernel)) (GT_at 12 (by decide +kernel) (by decide +kernel)) (GT_at 411 (by decide +kernel) (by decide +kernel)) (by decide +kernel) (by decide) (GT_at 409 (by decide +kernel) (by decide +kernel)) (GT_at 410 (by decide +kernel) (by decide +kernel)) rfl rfl) (all_nil)))) ?_ ?_
  · rintro as M - ⟨o, t, rfl, hp⟩
    exact Nat.le_of_ble_eq_true rfl
  · rintro L scr as M - ⟨o, t, rfl, hp⟩
    exact Runs.mono (fun x M' h _ _ e => by cases e; exact h) (ok_X6_turnsUntilGone L scr o t M hp)
abbrev C_X6_untilGone : Ct := (2, true, fun as M => ∃ (o : Nat) (t : Int), as = [wR o, wI t] ∧ (o = 3 ∧ GI M ∧ inr t), fun as M x M' => ∀ (o : Nat) (t : Int), as = [wR o, wI t] → (Bo C_X7_untilGone [wR 11, wI t] M M' x))
def sx_X6_untilGone : Sx := (tb_X6_untilGone, fdX6, kLX6, kIX6, sgX6, ntX6, [(140, (4, C_X4_hasCome)), (201, (6, C_X6_turnsUntilGone))], 1)
set_option maxRecDepth 100000 in
set_option maxHeartbeats 1000000 in
theorem ok_X6_untilGone (L : Nat) (scr : Int → Int) (o : Nat) (t : Int) (M : Mem) (hp : o = 3 ∧ GI M ∧ inr t) : Runs sx_X6_untilGone L (xcF scr) (fun x M' => Bo C_X7_untilGone [wR 11, wI t] M M' x) 0 [wR o, wI t] [] M := by
  obtain ⟨rfl, g, h1⟩ := hp
  have i7 := g.i7
  by_cases hd : 0 ≤ t ∧ t < M 12 7
  · refine R_aload_n (q := 1) (i := 0) rfl rfl rfl rfl ?_
    refine R_getR (q := 4) rfl rfl rfl rfl rfl (by omega) ?_
    refine R_iload_n (q := 5) (i := 1) rfl rfl rfl rfl ?_
    refine R_cV1I (q := 8) (ci := 4) (C := C_X4_hasCome) rfl rfl rfl rfl rfl ⟨_, _, rfl, hc_pre g h1⟩ rfl (lay0 st15) (by omega) (fun x M' hc => ?_)
    replace hc := hc _ _ rfl
    obtain ⟨hc, rfl⟩ := hc
    replace hc := hc_w g hc
    refine R_if_eq (q := 11) (tgt := 19) rfl rfl (by decide) (by omega) (fun h8 => ?_) (fun h8 => ?_)
    · omega
    · refine R_aload_n (q := 12) (i := 0) rfl rfl rfl rfl ?_
      refine R_iload_n (q := 13) (i := 1) rfl rfl rfl rfl ?_
      refine R_cV1I (q := 16) (ci := 6) (C := C_X6_turnsUntilGone) rfl rfl rfl rfl rfl ⟨_, _, rfl, ⟨rfl, g.1.1, g.2.1.1, h1, hd⟩⟩ rfl rfl (by omega) (fun x M' hc => ?_)
      replace hc := hc _ _ rfl
      obtain ⟨rfl, r2, f2⟩ := hc
      refine R_goto (q := 19) (tgt := 20) rfl rfl (by decide) ?_
      refine R_ret rfl (Or.inl rfl) ?_
      have sm := SmC.t f2
      refine Bo_sm g sm (fun y N q => ?_)
      have e12 := sm.r 12 (by omega) (by omega)
      rcases q 11 t rfl with ⟨z, _⟩ | ⟨_, rfl, z⟩
      · exact absurd (by rw [e12]; exact hd) z
      · exact ⟨(Wn.unt_ ⟨hd.1, by omega⟩ _ _ _ _ (wn_tau e12) g.2.1.1).symm, SmR.t z⟩
  · refine R_aload_n (q := 1) (i := 0) rfl rfl rfl rfl ?_
    refine R_getR (q := 4) rfl rfl rfl rfl rfl (by omega) ?_
    refine R_iload_n (q := 5) (i := 1) rfl rfl rfl rfl ?_
    refine R_cV1I (q := 8) (ci := 4) (C := C_X4_hasCome) rfl rfl rfl rfl rfl ⟨_, _, rfl, hc_pre g h1⟩ rfl (lay0 st15) (by omega) (fun x M' hc => ?_)
    replace hc := hc _ _ rfl
    obtain ⟨hc, rfl⟩ := hc
    replace hc := hc_w g hc
    refine R_if_eq (q := 11) (tgt := 19) rfl rfl (by decide) (by omega) (fun h8 => ?_) (fun h8 => ?_)
    · refine R_iconst (q := 20) rfl rfl ?_
      refine R_ret rfl (Or.inl rfl) ?_
      refine Bo_sm g SmC.rf (fun y N q => ?_)
      rcases q 11 t rfl with ⟨_, rfl, z⟩ | ⟨z, _⟩
      · exact ⟨rfl, SmR.t z⟩
      · exact absurd z hd
    · omega
set_option maxRecDepth 100000 in
theorem mt_X6_untilGone : MtOK yX6_untilGone cX6_untilGone 2 (some .int) 6 C_X6_untilGone := by
  refine mt_of sx_X6_untilGone (by decide +kernel) (Or.inl ⟨rfl, rfl, rfl⟩) (by decide +kernel) fdX6_ok kLX6_ok kIX6_ok sgX6_ok ntX6_ok
    (all_cons (clokV mt_X4_hasCome rfl (GT_at 459 (by decide +kernel) (by decide +kernel)) (GT_at 12 (by decide +kernel) (by decide +kernel)) (GT_at 367 (by decide +kernel) (by decide +kernel)) (by decide +kernel) (by decide) (GT_at 365 (by decide +kernel) (by decide +kernel)) (GT_at 366 (by decide +kernel) (by decide +kernel)) rfl rfl) (all_cons (clokV mt_X6_turnsUntilGone rfl (GT_at 512 (by decide +kernel) (by decide +kernel)) (GT_at 11 (by decide +kernel) (by decide +kernel)) (GT_at 515 (by decide +kernel) (by decide +kernel)) (by decide +kernel) (by decide) (GT_at 514 (by decide +kernel) (by decide +kernel)) (GT_at 9 (by decide +kernel) (by decide +kernel)) rfl rfl) (all_nil))) ?_ ?_
  · rintro as M - ⟨o, t, rfl, hp⟩
    exact Nat.le_of_ble_eq_true rfl
  · rintro L scr as M - ⟨o, t, rfl, hp⟩
    exact Runs.mono (fun x M' h _ _ e => by cases e; exact h) (ok_X6_untilGone L scr o t M hp)
abbrev C_X6_fate : Ct := (2, true, fun as M => ∃ (o : Nat) (t : Int), as = [wR o, wI t] ∧ (o = 3 ∧ GI M ∧ inr t), fun as M x M' => ∀ (o : Nat) (t : Int), as = [wR o, wI t] → (Bo C_X7_fate [wR 11, wI t] M M' x))
def sx_X6_fate : Sx := (tb_X6_fate, fdX6, kLX6, kIX6, sgX6, ntX6, [(140, (4, C_X4_hasCome)), (201, (6, C_X6_turnsUntilGone))], 1)
set_option maxRecDepth 100000 in
set_option maxHeartbeats 1000000 in
theorem ok_X6_fate (L : Nat) (scr : Int → Int) (o : Nat) (t : Int) (M : Mem) (hp : o = 3 ∧ GI M ∧ inr t) : Runs sx_X6_fate L (xcF scr) (fun x M' => Bo C_X7_fate [wR 11, wI t] M M' x) 0 [wR o, wI t] [] M := by
  obtain ⟨rfl, g, h1⟩ := hp
  have i7 := g.i7
  by_cases hd : 0 ≤ t ∧ t < M 12 7
  · have uI := unf_Inv t 201 (M 12) g.2.1.1
    have u7 := uI.2 7 Kp7
    have done : ∀ (M1 : Mem) (x : Int), FrS M M1 37 → x = (if unt t 201 0 (M 12) = -6 then -6 else unf t 201 (M 12) (90 + 9 * t)) → Bo C_X7_fate [wR 11, wI t] M M1 x := fun M1 x f2 hx => by
      have sm := SmC.t f2
      refine Bo_sm g sm (fun y N q => ?_)
      have e12 := sm.r 12 (by omega) (by omega)
      rcases q 11 t rfl with ⟨z, _⟩ | ⟨_, rfl, z⟩
      · exact absurd (by rw [e12]; exact hd) z
      · refine ⟨?_, SmR.t z⟩
        unfold ftV
        rw [Wn.unt_ ⟨hd.1, by omega⟩ 201 0 _ _ (wn_tau e12) g.2.1.1, Wn.unf_ ⟨hd.1, by omega⟩ 201 _ _ (wn_tau e12) g.2.1.1 (90 + 9 * t) (by omega) (by omega)]
        exact hx
    refine R_aload_n (q := 1) (i := 0) rfl rfl rfl rfl ?_
    refine R_getR (q := 4) rfl rfl rfl rfl rfl (by omega) ?_
    refine R_iload_n (q := 5) (i := 1) rfl rfl rfl rfl ?_
    refine R_cV1I (q := 8) (ci := 4) (C := C_X4_hasCome) rfl rfl rfl rfl rfl ⟨_, _, rfl, hc_pre g h1⟩ rfl (lay0 st15) (by omega) (fun x M' hc => ?_)
    replace hc := hc _ _ rfl
    obtain ⟨hc, rfl⟩ := hc
    replace hc := hc_w g hc
    refine R_if_ne (q := 11) (tgt := 13) rfl rfl (by decide) (by omega) (fun h8 => ?_) (fun h8 => ?_)
    · refine R_aload_n (q := 14) (i := 0) rfl rfl rfl rfl ?_
      refine R_iload_n (q := 15) (i := 1) rfl rfl rfl rfl ?_
      refine R_cV1I (q := 18) (ci := 6) (C := C_X6_turnsUntilGone) rfl rfl rfl rfl rfl ⟨_, _, rfl, ⟨rfl, g.1.1, g.2.1.1, h1, hd⟩⟩ rfl rfl (by omega) (fun x M' hc => ?_)
      replace hc := hc _ _ rfl
      obtain ⟨hx, r2, f2⟩ := hc
      have ub := unt_bd (t := t) 201 0 (M 12)
      generalize unt t 201 0 (M 12) = V at ub done hx
      subst hx
      refine R_bipush (q := 20) rfl rfl (by decide) ?_
      refine R_icmp_ne (q := 23) (tgt := 28) rfl rfl (by decide) (by omega) (by omega) (fun h20 => ?_) (fun h20 => ?_)
      · refine R_aload_n (q := 29) (i := 0) rfl rfl rfl rfl ?_
        refine R_getR (q := 32) rfl rfl rfl rfl rfl (by omega) ?_
        refine R_getR (q := 35) rfl rfl rfl (lay0 st37) rfl (by omega) ?_
        refine R_getR (q := 38) rfl rfl rfl (lay_tk (tkI st37)) rfl (by omega) ?_
        refine R_iload_n (q := 39) (i := 1) rfl rfl rfl rfl ?_
        refine R_iald (q := 40) rfl rfl (lay_ta (tkI st37) rfl) (by omega) (by omega) rfl ?_
        refine R_ret rfl (Or.inl rfl) ?_
        first
          | exact done _ _ f2 (if_pos (by omega)).symm
          | exact done _ _ f2 ((r2.fa (t := t) (by rw [u7]; exact hd) (by omega)).trans (if_neg (by omega)).symm)
      · refine R_bipush (q := 25) rfl rfl (by decide) ?_
        refine R_goto (q := 28) (tgt := 40) rfl rfl (by decide) ?_
        refine R_ret rfl (Or.inl rfl) ?_
        first
          | exact done _ _ f2 (if_pos (by omega)).symm
          | exact done _ _ f2 ((r2.fa (t := t) (by rw [u7]; exact hd) (by omega)).trans (if_neg (by omega)).symm)
    · omega
  · refine R_aload_n (q := 1) (i := 0) rfl rfl rfl rfl ?_
    refine R_getR (q := 4) rfl rfl rfl rfl rfl (by omega) ?_
    refine R_iload_n (q := 5) (i := 1) rfl rfl rfl rfl ?_
    refine R_cV1I (q := 8) (ci := 4) (C := C_X4_hasCome) rfl rfl rfl rfl rfl ⟨_, _, rfl, hc_pre g h1⟩ rfl (lay0 st15) (by omega) (fun x M' hc => ?_)
    replace hc := hc _ _ rfl
    obtain ⟨hc, rfl⟩ := hc
    replace hc := hc_w g hc
    refine R_if_ne (q := 11) (tgt := 13) rfl rfl (by decide) (by omega) (fun h8 => ?_) (fun h8 => ?_)
    · omega
    · refine R_iconst (q := 12) rfl rfl ?_
      refine R_ret rfl (Or.inl rfl) ?_
      refine Bo_sm g SmC.rf (fun y N q => ?_)
      rcases q 11 t rfl with ⟨_, rfl, z⟩ | ⟨z, _⟩
      · exact ⟨rfl, SmR.t z⟩
      · exact absurd z hd
set_option maxRecDepth 100000 in
theorem mt_X6_fate : MtOK yX6_fate cX6_fate 2 (some .int) 6 C_X6_fate := by
  refine mt_of sx_X6_fate (by decide +kernel) (Or.inl ⟨rfl, rfl, rfl⟩) (by decide +kernel) fdX6_ok kLX6_ok kIX6_ok sgX6_ok ntX6_ok
    (all_cons (clokV mt_X4_hasCome rfl (GT_at 459 (by decide +kernel) (by decide +kernel)) (GT_at 12 (by decide +kernel) (by decide +kernel)) (GT_at 367 (by decide +kernel) (by decide +kernel)) (by decide +kernel) (by decide) (GT_at 365 (by decide +kernel) (by decide +kernel)) (GT_at 366 (by decide +kernel) (by decide +kernel)) rfl rfl) (all_cons (clokV mt_X6_turnsUntilGone rfl (GT_at 512 (by decide +kernel) (by decide +kernel)) (GT_at 11 (by decide +kernel) (by decide +kernel)) (GT_at 515 (by decide +kernel) (by decide +kernel)) (by decide +kernel) (by decide) (GT_at 514 (by decide +kernel) (by decide +kernel)) (GT_at 9 (by decide +kernel) (by decide +kernel)) rfl rfl) (all_nil))) ?_ ?_
  · rintro as M - ⟨o, t, rfl, hp⟩
    exact Nat.le_of_ble_eq_true rfl
  · rintro L scr as M - ⟨o, t, rfl, hp⟩
    exact Runs.mono (fun x M' h _ _ e => by cases e; exact h) (ok_X6_fate L scr o t M hp)
