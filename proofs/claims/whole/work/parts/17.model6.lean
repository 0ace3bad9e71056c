/-! what would be: the reference plays on the row 7 -/
def tau (M : Mem) : Int → Int := fun i => if 0 ≤ i ∧ i < 662 then M 12 i else M 12 (4634 + i)
def Out (f g : Int → Int) : Prop := ∀ j, j < 0 ∨ 662 ≤ j → f j = g j
theorem cp7 {M : Mem} {g : Int → Int} (h : Out g (tau M)) : cpM (mr 4634 M g) 12 0 12 4634 662 = mr 4634 M (tau M) := by
  funext r k
  by_cases hr : r = 12
  · subst hr
    by_cases hk : 4634 ≤ k ∧ k < 4634 + 662
    · rw [cp_p hk, mr_12, mr_12, h _ (by omega)]
      unfold tau
      rw [if_neg (by omega), if_pos (by omega)]
      congr 1
      omega
    · rw [cp_n (by omega), mr_12, mr_12, h _ (by omega)]
  · rw [cp_r hr, mr_ne hr, mr_ne hr]
theorem mr_tau {M : Mem} : mr 4634 M (sh 4634 (M 12)) = M := mr_self _ _
theorem Out_self {M : Mem} : Out (sh 4634 (M 12)) (tau M) := by
  intro j hj
  unfold tau
  rw [if_neg (by omega)]
  rfl
theorem cp7' {M : Mem} : cpM M 12 0 12 4634 662 = mr 4634 M (tau M) := by
  have := cp7 (M := M) (g := sh 4634 (M 12)) Out_self
  rwa [mr_tau] at this
theorem Out_tnN {f g : Int → Int} (n : Nat) (I : Inv f) (h : Out f g) : Out (tnN n f) g := fun j hj => ((tnN_Inv n f I).2.1 j (by unfold Kp; omega)).trans (h j hj)
theorem Bd_win {f g : Int → Int} (h : ∀ i, 0 ≤ i → i < 662 → g i = f i) (b : Bd f) : Bd g :=
  Bd_keep b (fun j a c => h j a (by omega)) (fun j a c => h j (by omega) (by omega)) (fun t a c => ⟨h _ (by omega) (by omega), h _ (by omega) (by omega), h _ (by omega) (by omega), h _ (by omega) (by omega)⟩)
theorem Inv_win {f g : Int → Int} (h : ∀ i, 0 ≤ i → i < 662 → g i = f i) (I : Inv f) : Inv g :=
  Inv_same I (by rw [h 6 (by omega) (by omega)]; exact I.2.1.1) (fun j a b _ => h j a (by omega)) (fun j a b => h j (by omega) (by omega)) (fun e a b => ⟨h _ (by omega) (by omega), h _ (by omega) (by omega)⟩) (fun j a b => h j (by omega) (by omega))
    (fun t a b => ⟨h _ (by omega) (by omega), h _ (by omega) (by omega), h _ (by omega) (by omega), h _ (by omega) (by omega), h _ (by omega) (by omega), h _ (by omega) (by omega)⟩)
theorem tau_w {M : Mem} : ∀ i, 0 ≤ i → i < 662 → tau M i = M 12 i := fun i a b => if_pos ⟨a, b⟩
theorem tau_Inv {M : Mem} (I : Inv (M 12)) : Inv (tau M) := Inv_win tau_w I
theorem tau_Out {M : Mem} : Out (tau M) (tau M) := fun _ _ => rfl
/-- nothing but the row 7 has changed -/
def Tr (M M' : Mem) : Prop := (∀ i, i < 4634 → M' 12 i = M 12 i) ∧ ∀ r, r ≠ 12 → M' r = M r
theorem Tr_mr {M : Mem} {g : Int → Int} (h : Out g (tau M)) : Tr M (mr 4634 M g) := by
  refine ⟨fun i hi => ?_, fun r hr => mr_ne hr⟩
  rw [mr_12, h _ (by omega)]
  unfold tau
  rw [if_neg (by omega)]
  congr 1
  omega
noncomputable def unt (t : Int) : Nat → Int → (Int → Int) → Int
  | 0, _, _ => -6
  | n + 1, k, f => if f (90 + 9 * t) = 0 then unt t n (k + 1) (tn1 f) else k
noncomputable def unf (t : Int) : Nat → (Int → Int) → (Int → Int)
  | 0, f => f
  | n + 1, f => if f (90 + 9 * t) = 0 then unf t n (tn1 f) else f
theorem unf_Inv (t : Int) : ∀ (n : Nat) (f : Int → Int), Inv f → Inv (unf t n f) ∧ ∀ j, Kp j → unf t n f j = f j
  | 0, f, I => ⟨I, fun _ _ => rfl⟩
  | n + 1, f, I => by
    unfold unf
    by_cases e : f (90 + 9 * t) = 0
    · rw [if_pos e]
      obtain ⟨a, b, -⟩ := tn1_Inv I
      obtain ⟨c, d⟩ := unf_Inv t n _ a
      exact ⟨c, fun j hj => (d j hj).trans (b j hj)⟩
    · rw [if_neg e]
      exact ⟨I, fun _ _ => rfl⟩
theorem unt_bd {t : Int} : ∀ (n : Nat) (k : Int) (f : Int → Int), unt t n k f = -6 ∨ (k ≤ unt t n k f ∧ unt t n k f < k + n)
  | 0, _, _ => Or.inl rfl
  | n + 1, k, f => by
    unfold unt
    by_cases e : f (90 + 9 * t) = 0
    · rw [if_pos e]
      have := unt_bd (t := t) n (k + 1) (tn1 f)
      omega
    · rw [if_neg e]
      omega
abbrev C_X7_turnsTo : Ct := (2, true, fun as M => ∃ (o : Nat) (t : Int), as = [wR o, wI t] ∧ (o = 11 ∧ inr t ∧ Inv (M 12) ∧ hasT (M 12) t), fun as M x M' => ∀ (o : Nat) (t : Int), as = [wR o, wI t] → ((unt t 201 0 (tau M)) = x ∧ (mr 4634 M (unf t 201 (tau M))) = M'))
def sx_X7_turnsTo : Sx := (tb_X7_turnsTo, fdX7, kLX7, kIX7, sgX7, ntX7, [(28, (7, C_X7_copies)), (39, (9, C_X7_trunkAt)), (86, (7, C_X7_turn1))], 1)
set_option maxRecDepth 100000 in
set_option maxHeartbeats 1000000 in
theorem ok_X7_turnsTo (L : Nat) (scr : Int → Int) (o : Nat) (t : Int) (M : Mem) (hp : o = 11 ∧ inr t ∧ Inv (M 12) ∧ hasT (M 12) t) : Runs sx_X7_turnsTo L (xcF scr) (fun x M' => (unt t 201 0 (tau M)) = x ∧ (mr 4634 M (unf t 201 (tau M))) = M') 0 [wR o, wI t, none, none] [] M := by
  obtain ⟨rfl, h1, I, ht⟩ := hp
  unfold hasT at ht
  have i7 := I.2.1
  generalize hfin : (fun (x : Int) (M' : Mem) => (unt t 201 0 (tau M)) = x ∧ (mr 4634 M (unf t 201 (tau M))) = M') = Qp
  have L1 : ∀ (n : Nat) (k : Int) (f : Int → Int), 0 ≤ k → k + n = 201 → Inv f → f 7 = M 12 7 → unt t n k f = unt t 201 0 (tau M) → unf t n f = unf t 201 (tau M) → Runs sx_X7_turnsTo L (xcF scr) Qp 13 [wR 11, wI t, wI 4634, wI k] [] (mr 4634 M f) := by
    intro n
    induction n with
    | zero =>
      intro k f hk hn If f7 e1 e2
      have e1 : -6 = unt t 201 0 (tau M) := e1
      have e2 : f = unf t 201 (tau M) := e2
      refine R_iload_n (q := 14) (i := 3) rfl rfl rfl rfl ?_
      refine R_sipush (q := 17) rfl rfl (by decide) ?_
      refine R_icmp_gt (q := 20) (tgt := 48) rfl rfl (by decide) (by omega) (by omega) (fun h17 => ?_) (fun h17 => ?_)
      · refine R_bipush (q := 50) rfl rfl (by decide) ?_
        refine R_ret rfl (Or.inl rfl) ?_
        rw [← hfin, ← e2]
        exact ⟨e1.symm, rfl⟩
      · omega
    | succ n ih =>
      intro k f hk hn If f7 e1 e2
      have c := (If.2.2.2.2.2.2.1 t ht.1 (by omega)).1
      by_cases hz : f (90 + 9 * t) = 0
      · rw [show unt t (n + 1) k f = unt t n (k + 1) (tn1 f) from if_pos hz] at e1
        rw [show unf t (n + 1) f = unf t n (tn1 f) from if_pos hz] at e2
        have i1 := tn1_Inv If
        refine R_iload_n (q := 14) (i := 3) rfl rfl rfl rfl ?_
        refine R_sipush (q := 17) rfl rfl (by decide) ?_
        refine R_icmp_gt (q := 20) (tgt := 48) rfl rfl (by decide) (by omega) (by omega) (fun h17 => ?_) (fun h17 => ?_)
        · omega
        · refine R_aload_n (q := 21) (i := 0) rfl rfl rfl rfl ?_
          refine R_getR (q := 24) rfl rfl rfl rfl rfl (by omega) ?_
          refine R_iload_n (q := 25) (i := 2) rfl rfl rfl rfl ?_
          refine R_iload_n (q := 26) (i := 1) rfl rfl rfl rfl ?_
          refine R_cS2I (q := 29) (ci := 9) (C := C_X7_trunkAt) rfl rfl rfl rfl rfl ⟨_, _, rfl, (by first | trivial | assumption | omega)⟩ rfl rfl (fun x M' hc => ?_)
          replace hc := hc _ _ rfl
          try simp only [sh_mr, mr_mr] at hc
          obtain ⟨rfl, rfl⟩ := hc
          refine R_iconst (q := 30) rfl rfl ?_
          refine R_iadd (q := 31) rfl rfl ?_
          refine R_iald (q := 32) (v := f (90 + 9 * t)) rfl rfl rfl (by omega) (by omega) (by first | exact rd12 (by omega) | exact rdmr (by omega)) ?_
          refine R_if_eq (q := 35) (tgt := 37) rfl rfl (by decide) (by omega) (fun h32 => ?_) (fun h32 => ?_)
          · refine R_aload_n (q := 38) (i := 0) rfl rfl rfl rfl ?_
            refine R_iload_n (q := 39) (i := 2) rfl rfl rfl rfl ?_
            refine R_cV1N (q := 42) (ci := 7) (C := C_X7_turn1) rfl rfl rfl rfl rfl ⟨_, _, rfl, ⟨rfl, by omega, by rw [sh_mr]; exact If⟩⟩ rfl rfl (by omega) (fun M' hc => ?_)
            replace hc := hc _ _ rfl
            try simp only [sh_mr, mr_mr] at hc
            subst hc
            refine R_iinc (q := 45) rfl rfl rfl rfl ?_
            refine R_goto (q := 48) (tgt := 13) rfl rfl (by decide) ?_
            exact ih (k + 1) (tn1 f) (by omega) (by omega) i1.1 ((i1.2.1 7 (by unfold Kp; omega)).trans f7) e1 e2
          · exact absurd hz h32
      · rw [show unt t (n + 1) k f = k from if_neg hz] at e1
        rw [show unf t (n + 1) f = f from if_neg hz] at e2
        refine R_iload_n (q := 14) (i := 3) rfl rfl rfl rfl ?_
        refine R_sipush (q := 17) rfl rfl (by decide) ?_
        refine R_icmp_gt (q := 20) (tgt := 48) rfl rfl (by decide) (by omega) (by omega) (fun h17 => ?_) (fun h17 => ?_)
        · omega
        · refine R_aload_n (q := 21) (i := 0) rfl rfl rfl rfl ?_
          refine R_getR (q := 24) rfl rfl rfl rfl rfl (by omega) ?_
          refine R_iload_n (q := 25) (i := 2) rfl rfl rfl rfl ?_
          refine R_iload_n (q := 26) (i := 1) rfl rfl rfl rfl ?_
          refine R_cS2I (q := 29) (ci := 9) (C := C_X7_trunkAt) rfl rfl rfl rfl rfl ⟨_, _, rfl, (by first | trivial | assumption | omega)⟩ rfl rfl (fun x M' hc => ?_)
          replace hc := hc _ _ rfl
          try simp only [sh_mr, mr_mr] at hc
          obtain ⟨rfl, rfl⟩ := hc
          refine R_iconst (q := 30) rfl rfl ?_
          refine R_iadd (q := 31) rfl rfl ?_
          refine R_iald (q := 32) (v := f (90 + 9 * t)) rfl rfl rfl (by omega) (by omega) (by first | exact rd12 (by omega) | exact rdmr (by omega)) ?_
          refine R_if_eq (q := 35) (tgt := 37) rfl rfl (by decide) (by omega) (fun h32 => ?_) (fun h32 => ?_)
          · exact absurd h32 hz
          · refine R_iload_n (q := 36) (i := 3) rfl rfl rfl rfl ?_
            refine R_ret rfl (Or.inl rfl) ?_
            rw [← hfin, ← e2]
            exact ⟨e1.symm, rfl⟩
  refine R_aload_n (q := 1) (i := 0) rfl rfl rfl rfl ?_
  refine R_iconst (q := 2) rfl rfl ?_
  refine R_bipush (q := 4) rfl rfl (by decide) ?_
  refine R_cV2N (q := 7) (ci := 7) (C := C_X7_copies) rfl rfl rfl rfl rfl ⟨_, _, _, rfl, ⟨rfl, by omega, by omega, by omega⟩⟩ rfl rfl (by omega) (fun M' hc => ?_)
  replace hc := hc _ _ _ rfl
  rw [show (662 : Int) * 0 = 0 from rfl, show (662 : Int) * 7 = 4634 from rfl, cp7'] at hc
  subst hc
  refine R_sipush (q := 10) rfl rfl (by decide) ?_
  refine R_istore_n (q := 11) (i := 2) rfl rfl rfl rfl ?_
  refine R_iconst (q := 12) rfl rfl ?_
  refine R_istore_n (q := 13) (i := 3) rfl rfl rfl rfl ?_
  exact L1 201 0 (tau M) (by omega) rfl (tau_Inv I) (tau_w 7 (by omega) (by omega)) rfl rfl
set_option maxRecDepth 100000 in
theorem mt_X7_turnsTo : MtOK yX7_turnsTo cX7_turnsTo 4 (some .int) 7 C_X7_turnsTo := by
  refine mt_of sx_X7_turnsTo (by decide +kernel) (Or.inl ⟨rfl, rfl, rfl⟩) (by decide +kernel) fdX7_ok kLX7_ok kIX7_ok sgX7_ok ntX7_ok
    (all_cons (clokV mt_X7_copies rfl (GT_at 604 (by decide +kernel) (by decide +kernel)) (GT_at 44 (by decide +kernel) (by decide +kernel)) (GT_at 607 (by decide +kernel) (by decide +kernel)) (by decide +kernel) (by decide) (GT_at 606 (by decide +kernel) (by decide +kernel)) (GT_at 12 (by decide +kernel) (by decide +kernel)) rfl rfl) (all_cons (clokS mt_X7_trunkAt (GT_at 659 (by decide +kernel) (by decide +kernel)) (GT_at 44 (by decide +kernel) (by decide +kernel)) (GT_at 661 (by decide +kernel) (by decide +kernel)) (by decide +kernel) (by decide) (GT_at 660 (by decide +kernel) (by decide +kernel))) (all_cons (clokV mt_X7_turn1 rfl (GT_at 725 (by decide +kernel) (by decide +kernel)) (GT_at 44 (by decide +kernel) (by decide +kernel)) (GT_at 728 (by decide +kernel) (by decide +kernel)) (by decide +kernel) (by decide) (GT_at 727 (by decide +kernel) (by decide +kernel)) (GT_at 28 (by decide +kernel) (by decide +kernel)) rfl rfl) (all_nil)))) ?_ ?_
  · rintro as M - ⟨o, t, rfl, hp⟩
    exact Nat.le_of_ble_eq_true rfl
  · rintro L scr as M - ⟨o, t, rfl, hp⟩
    exact Runs.mono (fun x M' h _ _ e => by cases e; exact h) (ok_X7_turnsTo L scr o t M hp)
abbrev C_X7_untilGone : Ct := (2, true, fun as M => ∃ (o : Nat) (t : Int), as = [wR o, wI t] ∧ (o = 11 ∧ inr t ∧ Inv (M 12)), fun as M x M' => ∀ (o : Nat) (t : Int), as = [wR o, wI t] → ((¬ hasT (M 12) t ∧ x = -1 ∧ Tr M M') ∨ (hasT (M 12) t ∧ x = unt t 201 0 (tau M) ∧ Tr M M')))
def sx_X7_untilGone : Sx := (tb_X7_untilGone, fdX7, kLX7, kIX7, sgX7, ntX7, [(98, (7, C_X7_isTrunk)), (174, (7, C_X7_turnsTo))], 1)
set_option maxRecDepth 100000 in
set_option maxHeartbeats 1000000 in
theorem ok_X7_untilGone (L : Nat) (scr : Int → Int) (o : Nat) (t : Int) (M : Mem) (hp : o = 11 ∧ inr t ∧ Inv (M 12)) : Runs sx_X7_untilGone L (xcF scr) (fun x M' => (¬ hasT (M 12) t ∧ x = -1 ∧ Tr M M') ∨ (hasT (M 12) t ∧ x = unt t 201 0 (tau M) ∧ Tr M M')) 0 [wR o, wI t] [] M := by
  obtain ⟨rfl, h1, I⟩ := hp
  have i7 := I.2.1
  have tr := Tr_mr (M := M) (g := unf t 201 (tau M)) (fun j hj => (unf_Inv t 201 _ (tau_Inv I)).2 j (by unfold Kp; omega))
  by_cases hz4 : 0 ≤ t ∧ t < M 12 7
  · refine R_aload_n (q := 1) (i := 0) rfl rfl rfl rfl ?_
    refine R_iload_n (q := 2) (i := 1) rfl rfl rfl rfl ?_
    refine R_cV1I (q := 5) (ci := 7) (C := C_X7_isTrunk) rfl rfl rfl rfl rfl ⟨_, _, rfl, ⟨rfl, h1, i7.2⟩⟩ rfl rfl (by omega) (fun x M' hc => ?_)
    replace hc := hc _ _ rfl
    rw [if_pos hz4] at hc
    obtain ⟨rfl, rfl⟩ := hc
    refine R_if_eq (q := 8) (tgt := 16) rfl rfl (by decide) (by omega) (fun h5 => ?_) (fun h5 => ?_)
    · omega
    · refine R_aload_n (q := 9) (i := 0) rfl rfl rfl rfl ?_
      refine R_iload_n (q := 10) (i := 1) rfl rfl rfl rfl ?_
      refine R_cV1I (q := 13) (ci := 7) (C := C_X7_turnsTo) rfl rfl rfl rfl rfl ⟨_, _, rfl, ⟨rfl, h1, I, hz4⟩⟩ rfl rfl (by omega) (fun x M' hc => ?_)
      replace hc := hc _ _ rfl
      try simp only [sh_mr, mr_mr] at hc
      obtain ⟨rfl, rfl⟩ := hc
      refine R_goto (q := 16) (tgt := 17) rfl rfl (by decide) ?_
      refine R_ret rfl (Or.inl rfl) ?_
      exact Or.inr ⟨hz4, rfl, tr⟩
  · refine R_aload_n (q := 1) (i := 0) rfl rfl rfl rfl ?_
    refine R_iload_n (q := 2) (i := 1) rfl rfl rfl rfl ?_
    refine R_cV1I (q := 5) (ci := 7) (C := C_X7_isTrunk) rfl rfl rfl rfl rfl ⟨_, _, rfl, ⟨rfl, h1, i7.2⟩⟩ rfl rfl (by omega) (fun x M' hc => ?_)
    replace hc := hc _ _ rfl
    rw [if_neg hz4] at hc
    obtain ⟨rfl, rfl⟩ := hc
    refine R_if_eq (q := 8) (tgt := 16) rfl rfl (by decide) (by omega) (fun h5 => ?_) (fun h5 => ?_)
    · refine R_iconst (q := 17) rfl rfl ?_
      refine R_ret rfl (Or.inl rfl) ?_
      exact Or.inl ⟨hz4, rfl, fun _ _ => rfl, fun _ _ => rfl⟩
    · omega
set_option maxRecDepth 100000 in
theorem mt_X7_untilGone : MtOK yX7_untilGone cX7_untilGone 2 (some .int) 8 C_X7_untilGone := by
  refine mt_of sx_X7_untilGone (by decide +kernel) (Or.inl ⟨rfl, rfl, rfl⟩) (by decide +kernel) fdX7_ok kLX7_ok kIX7_ok sgX7_ok ntX7_ok
    (all_cons (clokV mt_X7_isTrunk rfl (GT_at 677 (by decide +kernel) (by decide +kernel)) (GT_at 44 (by decide +kernel) (by decide +kernel)) (GT_at 680 (by decide +kernel) (by decide +kernel)) (by decide +kernel) (by decide) (GT_at 679 (by decide +kernel) (by decide +kernel)) (GT_at 19 (by decide +kernel) (by decide +kernel)) rfl rfl) (all_cons (clokV mt_X7_turnsTo rfl (GT_at 782 (by decide +kernel) (by decide +kernel)) (GT_at 44 (by decide +kernel) (by decide +kernel)) (GT_at 785 (by decide +kernel) (by decide +kernel)) (by decide +kernel) (by decide) (GT_at 784 (by decide +kernel) (by decide +kernel)) (GT_at 36 (by decide +kernel) (by decide +kernel)) rfl rfl) (all_nil))) ?_ ?_
  · rintro as M - ⟨o, t, rfl, hp⟩
    exact Nat.le_of_ble_eq_true rfl
  · rintro L scr as M - ⟨o, t, rfl, hp⟩
    exact Runs.mono (fun x M' h _ _ e => by cases e; exact h) (ok_X7_untilGone L scr o t M hp)
noncomputable def ftV (t : Int) (f : Int → Int) : Int := if unt t 201 0 f = -6 then -6 else unf t 201 f (90 + 9 * t)
abbrev C_X7_fate : Ct := (2, true, fun as M => ∃ (o : Nat) (t : Int), as = [wR o, wI t] ∧ (o = 11 ∧ inr t ∧ Inv (M 12)), fun as M x M' => ∀ (o : Nat) (t : Int), as = [wR o, wI t] → ((¬ hasT (M 12) t ∧ x = -1 ∧ Tr M M') ∨ (hasT (M 12) t ∧ x = ftV t (tau M) ∧ Tr M M')))
def sx_X7_fate : Sx := (tb_X7_fate, fdX7, kLX7, kIX7, sgX7, ntX7, [(98, (7, C_X7_isTrunk)), (174, (7, C_X7_turnsTo)), (39, (9, C_X7_trunkAt))], 1)
set_option maxRecDepth 100000 in
set_option maxHeartbeats 1000000 in
theorem ok_X7_fate (L : Nat) (scr : Int → Int) (o : Nat) (t : Int) (M : Mem) (hp : o = 11 ∧ inr t ∧ Inv (M 12)) : Runs sx_X7_fate L (xcF scr) (fun x M' => (¬ hasT (M 12) t ∧ x = -1 ∧ Tr M M') ∨ (hasT (M 12) t ∧ x = ftV t (tau M) ∧ Tr M M')) 0 [wR o, wI t] [] M := by
  obtain ⟨rfl, h1, I⟩ := hp
  have i7 := I.2.1
  have tr := Tr_mr (M := M) (g := unf t 201 (tau M)) (fun j hj => (unf_Inv t 201 _ (tau_Inv I)).2 j (by unfold Kp; omega))
  have ub := unt_bd (t := t) 201 0 (tau M)
  by_cases hz4 : 0 ≤ t ∧ t < M 12 7
  · by_cases hu : unt t 201 0 (tau M) = -6
    · have e : ftV t (tau M) = -6 := if_pos hu
      refine R_aload_n (q := 1) (i := 0) rfl rfl rfl rfl ?_
      refine R_iload_n (q := 2) (i := 1) rfl rfl rfl rfl ?_
      refine R_cV1I (q := 5) (ci := 7) (C := C_X7_isTrunk) rfl rfl rfl rfl rfl ⟨_, _, rfl, ⟨rfl, h1, i7.2⟩⟩ rfl rfl (by omega) (fun x M' hc => ?_)
      replace hc := hc _ _ rfl
      rw [if_pos hz4] at hc
      obtain ⟨rfl, rfl⟩ := hc
      refine R_if_ne (q := 8) (tgt := 10) rfl rfl (by decide) (by omega) (fun h5 => ?_) (fun h5 => ?_)
      · refine R_aload_n (q := 11) (i := 0) rfl rfl rfl rfl ?_
        refine R_iload_n (q := 12) (i := 1) rfl rfl rfl rfl ?_
        refine R_cV1I (q := 15) (ci := 7) (C := C_X7_turnsTo) rfl rfl rfl rfl rfl ⟨_, _, rfl, ⟨rfl, h1, I, hz4⟩⟩ rfl rfl (by omega) (fun x M' hc => ?_)
        replace hc := hc _ _ rfl
        try simp only [sh_mr, mr_mr] at hc
        obtain ⟨rfl, rfl⟩ := hc
        refine R_bipush (q := 17) rfl rfl (by decide) ?_
        refine R_icmp_ne (q := 20) (tgt := 25) rfl rfl (by decide) (by omega) (by omega) (fun h17 => ?_) (fun h17 => ?_)
        · exact absurd hu h17
        · refine R_bipush (q := 22) rfl rfl (by decide) ?_
          refine R_goto (q := 25) (tgt := 39) rfl rfl (by decide) ?_
          refine R_ret rfl (Or.inl rfl) ?_
          exact Or.inr ⟨hz4, e.symm, tr⟩
      · omega
    · have e : ftV t (tau M) = unf t 201 (tau M) (90 + 9 * t) := if_neg hu
      refine R_aload_n (q := 1) (i := 0) rfl rfl rfl rfl ?_
      refine R_iload_n (q := 2) (i := 1) rfl rfl rfl rfl ?_
      refine R_cV1I (q := 5) (ci := 7) (C := C_X7_isTrunk) rfl rfl rfl rfl rfl ⟨_, _, rfl, ⟨rfl, h1, i7.2⟩⟩ rfl rfl (by omega) (fun x M' hc => ?_)
      replace hc := hc _ _ rfl
      rw [if_pos hz4] at hc
      obtain ⟨rfl, rfl⟩ := hc
      refine R_if_ne (q := 8) (tgt := 10) rfl rfl (by decide) (by omega) (fun h5 => ?_) (fun h5 => ?_)
      · refine R_aload_n (q := 11) (i := 0) rfl rfl rfl rfl ?_
        refine R_iload_n (q := 12) (i := 1) rfl rfl rfl rfl ?_
        refine R_cV1I (q := 15) (ci := 7) (C := C_X7_turnsTo) rfl rfl rfl rfl rfl ⟨_, _, rfl, ⟨rfl, h1, I, hz4⟩⟩ rfl rfl (by omega) (fun x M' hc => ?_)
        replace hc := hc _ _ rfl
        try simp only [sh_mr, mr_mr] at hc
        obtain ⟨rfl, rfl⟩ := hc
        refine R_bipush (q := 17) rfl rfl (by decide) ?_
        refine R_icmp_ne (q := 20) (tgt := 25) rfl rfl (by decide) (by omega) (by omega) (fun h17 => ?_) (fun h17 => ?_)
        · refine R_aload_n (q := 26) (i := 0) rfl rfl rfl rfl ?_
          refine R_getR (q := 29) rfl rfl rfl rfl rfl (by omega) ?_
          refine R_sipush (q := 32) rfl rfl (by decide) ?_
          refine R_iload_n (q := 33) (i := 1) rfl rfl rfl rfl ?_
          refine R_cS2I (q := 36) (ci := 9) (C := C_X7_trunkAt) rfl rfl rfl rfl rfl ⟨_, _, rfl, (by first | trivial | assumption | omega)⟩ rfl rfl (fun x M' hc => ?_)
          replace hc := hc _ _ rfl
          try simp only [sh_mr, mr_mr] at hc
          obtain ⟨rfl, rfl⟩ := hc
          refine R_iconst (q := 37) rfl rfl ?_
          refine R_iadd (q := 38) rfl rfl ?_
          refine R_iald (q := 39) (v := unf t 201 (tau M) (90 + 9 * t)) rfl rfl rfl (by omega) (by omega) (by first | exact rd12 (by omega) | exact rdmr (by omega)) ?_
          refine R_ret rfl (Or.inl rfl) ?_
          exact Or.inr ⟨hz4, e.symm, tr⟩
        · omega
      · omega
  · refine R_aload_n (q := 1) (i := 0) rfl rfl rfl rfl ?_
    refine R_iload_n (q := 2) (i := 1) rfl rfl rfl rfl ?_
    refine R_cV1I (q := 5) (ci := 7) (C := C_X7_isTrunk) rfl rfl rfl rfl rfl ⟨_, _, rfl, ⟨rfl, h1, i7.2⟩⟩ rfl rfl (by omega) (fun x M' hc => ?_)
    replace hc := hc _ _ rfl
    rw [if_neg hz4] at hc
    obtain ⟨rfl, rfl⟩ := hc
    refine R_if_ne (q := 8) (tgt := 10) rfl rfl (by decide) (by omega) (fun h5 => ?_) (fun h5 => ?_)
    · omega
    · refine R_iconst (q := 9) rfl rfl ?_
      refine R_ret rfl (Or.inl rfl) ?_
      exact Or.inl ⟨hz4, rfl, fun _ _ => rfl, fun _ _ => rfl⟩
set_option maxRecDepth 100000 in
theorem mt_X7_fate : MtOK yX7_fate cX7_fate 2 (some .int) 8 C_X7_fate := by
  refine mt_of sx_X7_fate (by decide +kernel) (Or.inl ⟨rfl, rfl, rfl⟩) (by decide +kernel) fdX7_ok kLX7_ok kIX7_ok sgX7_ok ntX7_ok
    (all_cons (clokV mt_X7_isTrunk rfl (GT_at 677 (by decide +kernel) (by decide +kernel)) (GT_at 44 (by decide +kernel) (by decide +kernel)) (GT_at 680 (by decide +kernel) (by decide +kernel)) (by decide +kernel) (by decide) (GT_at 679 (by decide +kernel) (by decide +kernel)) (GT_at 19 (by decide +kernel) (by decide +kernel)) rfl rfl) (all_cons (clokV mt_X7_turnsTo rfl (GT_at 782 (by decide +kernel) (by decide +kernel)) (GT_at 44 (by decide +kernel) (by decide +kernel)) (GT_at 785 (by decide +kernel) (by decide +kernel)) (by decide +kernel) (by decide) (GT_at 784 (by decide +kernel) (by decide +kernel)) (GT_at 36 (by decide +kernel) (by decide +kernel)) rfl rfl) (all_cons (clokS mt_X7_trunkAt (GT_at 659 (by decide +kernel) (by decide +kernel)) (GT_at 44 (by decide +kernel) (by decide +kernel)) (GT_at 661 (by decide +kernel) (by decide +kernel)) (by decide +kernel) (by decide) (GT_at 660 (by decide +kernel) (by decide +kernel))) (all_nil)))) ?_ ?_
  · rintro as M - ⟨o, t, rfl, hp⟩
    exact Nat.le_of_ble_eq_true rfl
  · rintro L scr as M - ⟨o, t, rfl, hp⟩
    exact Runs.mono (fun x M' h _ _ e => by cases e; exact h) (ok_X7_fate L scr o t M hp)
def mdb (f : Int → Int) : Nat → Int
  | 0 => -6
  | n + 1 => if f (90 + 9 * (n : Int)) = 0 ∧ (mdb f n = -6 ∨ dbt f (mdb f n) < dbt f (n : Int)) then (n : Int) else mdb f n
theorem mdb_bd {f : Int → Int} : ∀ n : Nat, mdb f n = -6 ∨ (0 ≤ mdb f n ∧ mdb f n < n)
  | 0 => Or.inl rfl
  | n + 1 => by
    unfold mdb
    have := mdb_bd (f := f) n
    split <;> omega
abbrev C_X7_mostDoubted : Ct := (1, true, fun as M => ∃ (o : Nat), as = [wR o] ∧ (o = 11 ∧ Inv (M 12)), fun as M x M' => ∀ (o : Nat), as = [wR o] → ((mdb (M 12) (M 12 7).toNat) = x ∧ (M) = M'))
def sx_X7_mostDoubted : Sx := (tb_X7_mostDoubted, fdX7, kLX7, kIX7, sgX7, ntX7, [(152, (7, C_X7_isWaiting)), (66, (7, C_X7_doubt))], 1)
set_option maxRecDepth 100000 in
set_option maxHeartbeats 1000000 in
theorem ok_X7_mostDoubted (L : Nat) (scr : Int → Int) (o : Nat) (M : Mem) (hp : o = 11 ∧ Inv (M 12)) : Runs sx_X7_mostDoubted L (xcF scr) (fun x M' => (mdb (M 12) (M 12 7).toNat) = x ∧ (M) = M') 0 [wR o, none, none] [] M := by
  obtain ⟨rfl, I⟩ := hp
  have i7 := I.2.1
  have L1 : ∀ (n k : Nat), k + n = (M 12 7).toNat → Runs sx_X7_mostDoubted L (xcF scr) (fun x M' => (mdb (M 12) (M 12 7).toNat) = x ∧ M = M') 5 [wR 11, wI (mdb (M 12) k), wI (k : Int)] [] M := by
    intro n
    induction n with
    | zero =>
      intro k hk
      refine R_iload_n (q := 6) (i := 2) rfl rfl rfl rfl ?_
      refine R_aload_n (q := 7) (i := 0) rfl rfl rfl rfl ?_
      refine R_getR (q := 10) rfl rfl rfl rfl rfl (by omega) ?_
      refine R_bipush (q := 12) rfl rfl (by decide) ?_
      refine R_iald (q := 13) rfl rfl rfl (by omega) (by omega) rfl ?_
      refine R_icmp_ge (q := 16) (tgt := 57) rfl rfl (by decide) (by omega) (by omega) (fun h13 => ?_) (fun h13 => ?_)
      · refine R_iload_n (q := 58) (i := 1) rfl rfl rfl rfl ?_
        refine R_ret rfl (Or.inl rfl) ?_
        rw [← hk]
        exact ⟨rfl, rfl⟩
      · omega
    | succ n ih =>
      intro k hk
      have mb := mdb_bd (f := M 12) k
      have dk := dbt_bd I.1 (t := (k : Int)) (by omega)
      by_cases hw : M 12 (90 + 9 * (k : Int)) = 0
      · by_cases hm : mdb (M 12) k = -6
        · have e : (k : Int) = mdb (M 12) (k + 1) := (if_pos ⟨hw, Or.inl hm⟩).symm
          refine R_iload_n (q := 6) (i := 2) rfl rfl rfl rfl ?_
          refine R_aload_n (q := 7) (i := 0) rfl rfl rfl rfl ?_
          refine R_getR (q := 10) rfl rfl rfl rfl rfl (by omega) ?_
          refine R_bipush (q := 12) rfl rfl (by decide) ?_
          refine R_iald (q := 13) rfl rfl rfl (by omega) (by omega) rfl ?_
          refine R_icmp_ge (q := 16) (tgt := 57) rfl rfl (by decide) (by omega) (by omega) (fun h13 => ?_) (fun h13 => ?_)
          · omega
          · refine R_aload_n (q := 17) (i := 0) rfl rfl rfl rfl ?_
            refine R_iload_n (q := 18) (i := 2) rfl rfl rfl rfl ?_
            refine R_cV1I (q := 21) (ci := 7) (C := C_X7_isWaiting) rfl rfl rfl rfl rfl ⟨_, _, rfl, ⟨rfl, by omega, i7.2, fun t a b => (I.2.2.2.2.2.2.1 t a b).1⟩⟩ rfl rfl (by omega) (fun x M' hc => ?_)
            replace hc := hc _ _ rfl
            rw [if_pos ⟨by omega, hw⟩] at hc
            obtain ⟨rfl, rfl⟩ := hc
            refine R_if_eq (q := 24) (tgt := 49) rfl rfl (by decide) (by omega) (fun h21 => ?_) (fun h21 => ?_)
            · omega
            · refine R_iload_n (q := 25) (i := 1) rfl rfl rfl rfl ?_
              refine R_bipush (q := 27) rfl rfl (by decide) ?_
              refine R_icmp_eq (q := 30) (tgt := 45) rfl rfl (by decide) (by omega) (by omega) (fun h27 => ?_) (fun h27 => ?_)
              · refine R_iload_n (q := 46) (i := 2) rfl rfl rfl rfl ?_
                refine R_goto (q := 49) (tgt := 50) rfl rfl (by decide) ?_
                refine R_istore_n (q := 51) (i := 1) rfl rfl rfl rfl ?_
                refine R_iinc (q := 54) rfl rfl rfl rfl ?_
                refine R_goto (q := 57) (tgt := 5) rfl rfl (by decide) ?_
                have z := ih (k + 1) (by omega)
                rw [← e] at z
                exact z
              · exact absurd hm h27
        · have dm := dbt_bd I.1 (t := mdb (M 12) k) (by omega)
          by_cases hd : dbt (M 12) (mdb (M 12) k) < dbt (M 12) (k : Int)
          · have e : (k : Int) = mdb (M 12) (k + 1) := (if_pos ⟨hw, Or.inr hd⟩).symm
            refine R_iload_n (q := 6) (i := 2) rfl rfl rfl rfl ?_
            refine R_aload_n (q := 7) (i := 0) rfl rfl rfl rfl ?_
            refine R_getR (q := 10) rfl rfl rfl rfl rfl (by omega) ?_
            refine R_bipush (q := 12) rfl rfl (by decide) ?_
            refine R_iald (q := 13) rfl rfl rfl (by omega) (by omega) rfl ?_
            refine R_icmp_ge (q := 16) (tgt := 57) rfl rfl (by decide) (by omega) (by omega) (fun h13 => ?_) (fun h13 => ?_)
            · omega
            · refine R_aload_n (q := 17) (i := 0) rfl rfl rfl rfl ?_
              refine R_iload_n (q := 18) (i := 2) rfl rfl rfl rfl ?_
              refine R_cV1I (q := 21) (ci := 7) (C := C_X7_isWaiting) rfl rfl rfl rfl rfl ⟨_, _, rfl, ⟨rfl, by omega, i7.2, fun t a b => (I.2.2.2.2.2.2.1 t a b).1⟩⟩ rfl rfl (by omega) (fun x M' hc => ?_)
              replace hc := hc _ _ rfl
              rw [if_pos ⟨by omega, hw⟩] at hc
              obtain ⟨rfl, rfl⟩ := hc
              refine R_if_eq (q := 24) (tgt := 49) rfl rfl (by decide) (by omega) (fun h21 => ?_) (fun h21 => ?_)
              · omega
              · refine R_iload_n (q := 25) (i := 1) rfl rfl rfl rfl ?_
                refine R_bipush (q := 27) rfl rfl (by decide) ?_
                refine R_icmp_eq (q := 30) (tgt := 45) rfl rfl (by decide) (by omega) (by omega) (fun h27 => ?_) (fun h27 => ?_)
                · exact absurd h27 hm
                · refine R_aload_n (q := 31) (i := 0) rfl rfl rfl rfl ?_
                  refine R_iconst (q := 32) rfl rfl ?_
                  refine R_iload_n (q := 33) (i := 2) rfl rfl rfl rfl ?_
                  refine R_cV2I (q := 36) (ci := 7) (C := C_X7_doubt) rfl rfl rfl rfl rfl ⟨_, _, _, rfl, ⟨rfl, by omega, by omega, by rw [sh_0]; exact I.1⟩⟩ rfl rfl (by omega) (fun x M' hc => ?_)
                  replace hc := hc _ _ _ rfl
                  rw [sh_0] at hc
                  obtain ⟨rfl, rfl⟩ := hc
                  refine R_aload_n (q := 37) (i := 0) rfl rfl rfl rfl ?_
                  refine R_iconst (q := 38) rfl rfl ?_
                  refine R_iload_n (q := 39) (i := 1) rfl rfl rfl rfl ?_
                  refine R_cV2I (q := 42) (ci := 7) (C := C_X7_doubt) rfl rfl rfl rfl rfl ⟨_, _, _, rfl, ⟨rfl, by omega, by omega, by rw [sh_0]; exact I.1⟩⟩ rfl rfl (by omega) (fun x M' hc => ?_)
                  replace hc := hc _ _ _ rfl
                  rw [sh_0] at hc
                  obtain ⟨rfl, rfl⟩ := hc
                  refine R_icmp_le (q := 45) (tgt := 49) rfl rfl (by decide) (by omega) (by omega) (fun h42 => ?_) (fun h42 => ?_)
                  · omega
                  · refine R_iload_n (q := 46) (i := 2) rfl rfl rfl rfl ?_
                    refine R_goto (q := 49) (tgt := 50) rfl rfl (by decide) ?_
                    refine R_istore_n (q := 51) (i := 1) rfl rfl rfl rfl ?_
                    refine R_iinc (q := 54) rfl rfl rfl rfl ?_
                    refine R_goto (q := 57) (tgt := 5) rfl rfl (by decide) ?_
                    have z := ih (k + 1) (by omega)
                    rw [← e] at z
                    exact z
          · have e : mdb (M 12) k = mdb (M 12) (k + 1) := (if_neg (fun z => z.2.elim hm hd)).symm
            refine R_iload_n (q := 6) (i := 2) rfl rfl rfl rfl ?_
            refine R_aload_n (q := 7) (i := 0) rfl rfl rfl rfl ?_
            refine R_getR (q := 10) rfl rfl rfl rfl rfl (by omega) ?_
            refine R_bipush (q := 12) rfl rfl (by decide) ?_
            refine R_iald (q := 13) rfl rfl rfl (by omega) (by omega) rfl ?_
            refine R_icmp_ge (q := 16) (tgt := 57) rfl rfl (by decide) (by omega) (by omega) (fun h13 => ?_) (fun h13 => ?_)
            · omega
            · refine R_aload_n (q := 17) (i := 0) rfl rfl rfl rfl ?_
              refine R_iload_n (q := 18) (i := 2) rfl rfl rfl rfl ?_
              refine R_cV1I (q := 21) (ci := 7) (C := C_X7_isWaiting) rfl rfl rfl rfl rfl ⟨_, _, rfl, ⟨rfl, by omega, i7.2, fun t a b => (I.2.2.2.2.2.2.1 t a b).1⟩⟩ rfl rfl (by omega) (fun x M' hc => ?_)
              replace hc := hc _ _ rfl
              rw [if_pos ⟨by omega, hw⟩] at hc
              obtain ⟨rfl, rfl⟩ := hc
              refine R_if_eq (q := 24) (tgt := 49) rfl rfl (by decide) (by omega) (fun h21 => ?_) (fun h21 => ?_)
              · omega
              · refine R_iload_n (q := 25) (i := 1) rfl rfl rfl rfl ?_
                refine R_bipush (q := 27) rfl rfl (by decide) ?_
                refine R_icmp_eq (q := 30) (tgt := 45) rfl rfl (by decide) (by omega) (by omega) (fun h27 => ?_) (fun h27 => ?_)
                · exact absurd h27 hm
                · refine R_aload_n (q := 31) (i := 0) rfl rfl rfl rfl ?_
                  refine R_iconst (q := 32) rfl rfl ?_
                  refine R_iload_n (q := 33) (i := 2) rfl rfl rfl rfl ?_
                  refine R_cV2I (q := 36) (ci := 7) (C := C_X7_doubt) rfl rfl rfl rfl rfl ⟨_, _, _, rfl, ⟨rfl, by omega, by omega, by rw [sh_0]; exact I.1⟩⟩ rfl rfl (by omega) (fun x M' hc => ?_)
                  replace hc := hc _ _ _ rfl
                  rw [sh_0] at hc
                  obtain ⟨rfl, rfl⟩ := hc
                  refine R_aload_n (q := 37) (i := 0) rfl rfl rfl rfl ?_
                  refine R_iconst (q := 38) rfl rfl ?_
                  refine R_iload_n (q := 39) (i := 1) rfl rfl rfl rfl ?_
                  refine R_cV2I (q := 42) (ci := 7) (C := C_X7_doubt) rfl rfl rfl rfl rfl ⟨_, _, _, rfl, ⟨rfl, by omega, by omega, by rw [sh_0]; exact I.1⟩⟩ rfl rfl (by omega) (fun x M' hc => ?_)
                  replace hc := hc _ _ _ rfl
                  rw [sh_0] at hc
                  obtain ⟨rfl, rfl⟩ := hc
                  refine R_icmp_le (q := 45) (tgt := 49) rfl rfl (by decide) (by omega) (by omega) (fun h42 => ?_) (fun h42 => ?_)
                  · refine R_iload_n (q := 50) (i := 1) rfl rfl rfl rfl ?_
                    refine R_istore_n (q := 51) (i := 1) rfl rfl rfl rfl ?_
                    refine R_iinc (q := 54) rfl rfl rfl rfl ?_
                    refine R_goto (q := 57) (tgt := 5) rfl rfl (by decide) ?_
                    have z := ih (k + 1) (by omega)
                    rw [← e] at z
                    exact z
                  · omega
      · have e : mdb (M 12) k = mdb (M 12) (k + 1) := (if_neg (fun z => hw z.1)).symm
        refine R_iload_n (q := 6) (i := 2) rfl rfl rfl rfl ?_
        refine R_aload_n (q := 7) (i := 0) rfl rfl rfl rfl ?_
        refine R_getR (q := 10) rfl rfl rfl rfl rfl (by omega) ?_
        refine R_bipush (q := 12) rfl rfl (by decide) ?_
        refine R_iald (q := 13) rfl rfl rfl (by omega) (by omega) rfl ?_
        refine R_icmp_ge (q := 16) (tgt := 57) rfl rfl (by decide) (by omega) (by omega) (fun h13 => ?_) (fun h13 => ?_)
        · omega
        · refine R_aload_n (q := 17) (i := 0) rfl rfl rfl rfl ?_
          refine R_iload_n (q := 18) (i := 2) rfl rfl rfl rfl ?_
          refine R_cV1I (q := 21) (ci := 7) (C := C_X7_isWaiting) rfl rfl rfl rfl rfl ⟨_, _, rfl, ⟨rfl, by omega, i7.2, fun t a b => (I.2.2.2.2.2.2.1 t a b).1⟩⟩ rfl rfl (by omega) (fun x M' hc => ?_)
          replace hc := hc _ _ rfl
          rw [if_neg (fun z => hw z.2)] at hc
          obtain ⟨rfl, rfl⟩ := hc
          refine R_if_eq (q := 24) (tgt := 49) rfl rfl (by decide) (by omega) (fun h21 => ?_) (fun h21 => ?_)
          · refine R_iload_n (q := 50) (i := 1) rfl rfl rfl rfl ?_
            refine R_istore_n (q := 51) (i := 1) rfl rfl rfl rfl ?_
            refine R_iinc (q := 54) rfl rfl rfl rfl ?_
            refine R_goto (q := 57) (tgt := 5) rfl rfl (by decide) ?_
            have z := ih (k + 1) (by omega)
            rw [← e] at z
            exact z
          · omega
  refine R_bipush (q := 2) rfl rfl (by decide) ?_
  refine R_istore_n (q := 3) (i := 1) rfl rfl rfl rfl ?_
  refine R_iconst (q := 4) rfl rfl ?_
  refine R_istore_n (q := 5) (i := 2) rfl rfl rfl rfl ?_
  exact L1 (M 12 7).toNat 0 (by omega)
set_option maxRecDepth 100000 in
theorem mt_X7_mostDoubted : MtOK yX7_mostDoubted cX7_mostDoubted 3 (some .int) 5 C_X7_mostDoubted := by
  refine mt_of sx_X7_mostDoubted (by decide +kernel) (Or.inl ⟨rfl, rfl, rfl⟩) (by decide +kernel) fdX7_ok kLX7_ok kIX7_ok sgX7_ok ntX7_ok
    (all_cons (clokV mt_X7_isWaiting rfl (GT_at 673 (by decide +kernel) (by decide +kernel)) (GT_at 44 (by decide +kernel) (by decide +kernel)) (GT_at 676 (by decide +kernel) (by decide +kernel)) (by decide +kernel) (by decide) (GT_at 675 (by decide +kernel) (by decide +kernel)) (GT_at 18 (by decide +kernel) (by decide +kernel)) rfl rfl) (all_cons (clokV mt_X7_doubt rfl (GT_at 684 (by decide +kernel) (by decide +kernel)) (GT_at 44 (by decide +kernel) (by decide +kernel)) (GT_at 687 (by decide +kernel) (by decide +kernel)) (by decide +kernel) (by decide) (GT_at 686 (by decide +kernel) (by decide +kernel)) (GT_at 20 (by decide +kernel) (by decide +kernel)) rfl rfl) (all_nil))) ?_ ?_
  · rintro as M - ⟨o, rfl, hp⟩
    exact Nat.le_of_ble_eq_true rfl
  · rintro L scr as M - ⟨o, rfl, hp⟩
    exact Runs.mono (fun x M' h _ e => by cases e; exact h) (ok_X7_mostDoubted L scr o M hp)
noncomputable def psn (n : Nat) (f : Int → Int) : Int := tnN n f 8 + tnN n f 9 - (f 8 + f 9)
def tkn (f : Int → Int) : Int := f 11 + f 12 + f 13
noncomputable def itV (n w : Int) (f : Int → Int) : Int := if w = 0 then psn n.toNat f else if w = 1 then tnN n.toNat f 9 - f 9 else tkn (tnN n.toNat f) - tkn f
def itOK (n w : Int) : Prop := (1 ≤ n ∧ n ≤ 200) ∧ (0 ≤ w ∧ w ≤ 2)
abbrev C_X7_ifTurned : Ct := (3, true, fun as M => ∃ (o : Nat) (n : Int) (w : Int), as = [wR o, wI n, wI w] ∧ (o = 11 ∧ inr n ∧ inr w ∧ Inv (M 12)), fun as M x M' => ∀ (o : Nat) (n : Int) (w : Int), as = [wR o, wI n, wI w] → ((¬ itOK n w ∧ x = -2 ∧ M = M') ∨ (itOK n w ∧ x = itV n w (tau M) ∧ mr 4634 M (tnN n.toNat (tau M)) = M')))
def sx_X7_ifTurned : Sx := (tb_X7_ifTurned, fdX7, kLX7, kIX7, sgX7, ntX7, [(92, (9, C_X7_in)), (28, (7, C_X7_copies)), (160, (7, C_X7_turnsBy)), (171, (7, C_X7_taken))], 1)
set_option maxRecDepth 100000 in
set_option maxHeartbeats 1000000 in
theorem ok_X7_ifTurned (L : Nat) (scr : Int → Int) (o : Nat) (n : Int) (w : Int) (M : Mem) (hp : o = 11 ∧ inr n ∧ inr w ∧ Inv (M 12)) : Runs sx_X7_ifTurned L (xcF scr) (fun x M' => (¬ itOK n w ∧ x = -2 ∧ M = M') ∨ (itOK n w ∧ x = itV n w (tau M) ∧ mr 4634 M (tnN n.toNat (tau M)) = M')) 0 [wR o, wI n, wI w, none, none] [] M := by
  obtain ⟨rfl, h1, h2, I⟩ := hp
  have i7 := I.2.1
  have It := tau_Inv I
  have t9 := tau_w (M := M) 9 (by omega) (by omega)
  have ot := Out_tnN n.toNat It tau_Out
  have e9 : mr 4634 M (tnN n.toNat (tau M)) 12 9 = tau M 9 := by rw [(Tr_mr ot).1 9 (by omega), t9]
  have eT : ∀ k, k < 662 → 0 ≤ k → mr 4634 M (tnN n.toNat (tau M)) 12 k = tau M k := fun k a b => by rw [(Tr_mr ot).1 k (by omega), tau_w k b a]
  by_cases hz4 : 1 ≤ n ∧ n ≤ 200
  · by_cases hz5 : 0 ≤ w ∧ w ≤ 2
    · have hw : w = 0 ∨ w = 1 ∨ w = 2 := by omega
      rcases hw with rfl | rfl | rfl
      · refine R_iload_n (q := 1) (i := 1) rfl rfl rfl rfl ?_
        refine R_i2l (q := 2) rfl rfl (by omega) ?_
        refine R_lconst (q := 3) (v := 1) rfl rfl rfl ?_
        refine R_ldc2 (q := 6) rfl rfl rfl ?_
        refine R_cS3I (q := 9) (ci := 9) (C := C_X7_in) rfl rfl rfl rfl rfl ⟨_, _, _, rfl, (by first | trivial | assumption | omega)⟩ rfl rfl (fun x M' hc => ?_)
        replace hc := hc _ _ _ rfl
        rw [if_pos hz4] at hc
        obtain ⟨rfl, rfl⟩ := hc
        refine R_if_eq (q := 12) (tgt := 24) rfl rfl (by decide) (by omega) (fun h9 => ?_) (fun h9 => ?_)
        · omega
        · refine R_iload_n (q := 13) (i := 2) rfl rfl rfl rfl ?_
          refine R_i2l (q := 14) rfl rfl (by omega) ?_
          refine R_lconst (q := 15) (v := 0) rfl rfl rfl ?_
          refine R_ldc2 (q := 18) rfl rfl rfl ?_
          refine R_cS3I (q := 21) (ci := 9) (C := C_X7_in) rfl rfl rfl rfl rfl ⟨_, _, _, rfl, (by first | trivial | assumption | omega)⟩ rfl rfl (fun x M' hc => ?_)
          replace hc := hc _ _ _ rfl
          rw [if_pos hz5] at hc
          obtain ⟨rfl, rfl⟩ := hc
          refine R_if_ne (q := 24) (tgt := 27) rfl rfl (by decide) (by omega) (fun h21 => ?_) (fun h21 => ?_)
          · refine R_aload_n (q := 28) (i := 0) rfl rfl rfl rfl ?_
            refine R_iconst (q := 29) rfl rfl ?_
            refine R_bipush (q := 31) rfl rfl (by decide) ?_
            refine R_cV2N (q := 34) (ci := 7) (C := C_X7_copies) rfl rfl rfl rfl rfl ⟨_, _, _, rfl, ⟨rfl, by omega, by omega, by omega⟩⟩ rfl rfl (by omega) (fun M' hc => ?_)
            replace hc := hc _ _ _ rfl
            rw [show (662 : Int) * 0 = 0 from rfl, show (662 : Int) * 7 = 4634 from rfl, cp7'] at hc
            subst hc
            refine R_sipush (q := 37) rfl rfl (by decide) ?_
            refine R_istore_n (q := 38) (i := 3) rfl rfl rfl rfl ?_
            refine R_aload_n (q := 39) (i := 0) rfl rfl rfl rfl ?_
            refine R_iload_n (q := 40) (i := 3) rfl rfl rfl rfl ?_
            refine R_iload_n (q := 41) (i := 1) rfl rfl rfl rfl ?_
            refine R_cV2I (q := 44) (ci := 7) (C := C_X7_turnsBy) rfl rfl rfl rfl rfl ⟨_, _, _, rfl, ⟨rfl, by omega, by rw [sh_mr]; exact It, by omega⟩⟩ rfl rfl (by omega) (fun x M' hc => ?_)
            replace hc := hc _ _ _ rfl
            try simp only [sh_mr, mr_mr] at hc
            obtain ⟨rfl, rfl⟩ := hc
            refine R_istore (q := 46) rfl rfl rfl ?_
            refine R_iload_n (q := 47) (i := 2) rfl rfl rfl rfl ?_
            refine R_if_ne (q := 50) (tgt := 55) rfl rfl (by decide) (by omega) (fun h47 => ?_) (fun h47 => ?_)
            · exact absurd rfl h47
            · refine R_iload (q := 52) rfl rfl rfl ?_
              refine R_goto (q := 55) (tgt := 91) rfl rfl (by decide) ?_
              refine R_ret rfl (Or.inl rfl) ?_
              exact Or.inr ⟨⟨hz4, hz5⟩, rfl, rfl⟩
          · omega
      · refine R_iload_n (q := 1) (i := 1) rfl rfl rfl rfl ?_
        refine R_i2l (q := 2) rfl rfl (by omega) ?_
        refine R_lconst (q := 3) (v := 1) rfl rfl rfl ?_
        refine R_ldc2 (q := 6) rfl rfl rfl ?_
        refine R_cS3I (q := 9) (ci := 9) (C := C_X7_in) rfl rfl rfl rfl rfl ⟨_, _, _, rfl, (by first | trivial | assumption | omega)⟩ rfl rfl (fun x M' hc => ?_)
        replace hc := hc _ _ _ rfl
        rw [if_pos hz4] at hc
        obtain ⟨rfl, rfl⟩ := hc
        refine R_if_eq (q := 12) (tgt := 24) rfl rfl (by decide) (by omega) (fun h9 => ?_) (fun h9 => ?_)
        · omega
        · refine R_iload_n (q := 13) (i := 2) rfl rfl rfl rfl ?_
          refine R_i2l (q := 14) rfl rfl (by omega) ?_
          refine R_lconst (q := 15) (v := 0) rfl rfl rfl ?_
          refine R_ldc2 (q := 18) rfl rfl rfl ?_
          refine R_cS3I (q := 21) (ci := 9) (C := C_X7_in) rfl rfl rfl rfl rfl ⟨_, _, _, rfl, (by first | trivial | assumption | omega)⟩ rfl rfl (fun x M' hc => ?_)
          replace hc := hc _ _ _ rfl
          rw [if_pos hz5] at hc
          obtain ⟨rfl, rfl⟩ := hc
          refine R_if_ne (q := 24) (tgt := 27) rfl rfl (by decide) (by omega) (fun h21 => ?_) (fun h21 => ?_)
          · refine R_aload_n (q := 28) (i := 0) rfl rfl rfl rfl ?_
            refine R_iconst (q := 29) rfl rfl ?_
            refine R_bipush (q := 31) rfl rfl (by decide) ?_
            refine R_cV2N (q := 34) (ci := 7) (C := C_X7_copies) rfl rfl rfl rfl rfl ⟨_, _, _, rfl, ⟨rfl, by omega, by omega, by omega⟩⟩ rfl rfl (by omega) (fun M' hc => ?_)
            replace hc := hc _ _ _ rfl
            rw [show (662 : Int) * 0 = 0 from rfl, show (662 : Int) * 7 = 4634 from rfl, cp7'] at hc
            subst hc
            refine R_sipush (q := 37) rfl rfl (by decide) ?_
            refine R_istore_n (q := 38) (i := 3) rfl rfl rfl rfl ?_
            refine R_aload_n (q := 39) (i := 0) rfl rfl rfl rfl ?_
            refine R_iload_n (q := 40) (i := 3) rfl rfl rfl rfl ?_
            refine R_iload_n (q := 41) (i := 1) rfl rfl rfl rfl ?_
            refine R_cV2I (q := 44) (ci := 7) (C := C_X7_turnsBy) rfl rfl rfl rfl rfl ⟨_, _, _, rfl, ⟨rfl, by omega, by rw [sh_mr]; exact It, by omega⟩⟩ rfl rfl (by omega) (fun x M' hc => ?_)
            replace hc := hc _ _ _ rfl
            try simp only [sh_mr, mr_mr] at hc
            obtain ⟨rfl, rfl⟩ := hc
            refine R_istore (q := 46) rfl rfl rfl ?_
            refine R_iload_n (q := 47) (i := 2) rfl rfl rfl rfl ?_
            refine R_if_ne (q := 50) (tgt := 55) rfl rfl (by decide) (by omega) (fun h47 => ?_) (fun h47 => ?_)
            · refine R_iload_n (q := 56) (i := 2) rfl rfl rfl rfl ?_
              refine R_iconst (q := 57) rfl rfl ?_
              refine R_icmp_ne (q := 60) (tgt := 80) rfl rfl (by decide) (by omega) (by omega) (fun h57 => ?_) (fun h57 => ?_)
              · exact absurd rfl h57
              · refine R_aload_n (q := 61) (i := 0) rfl rfl rfl rfl ?_
                refine R_getR (q := 64) rfl rfl rfl rfl rfl (by omega) ?_
                refine R_iload_n (q := 65) (i := 3) rfl rfl rfl rfl ?_
                refine R_bipush (q := 67) rfl rfl (by decide) ?_
                refine R_iadd (q := 68) rfl rfl ?_
                refine R_iald (q := 69) (v := tnN n.toNat (tau M) 9) rfl rfl rfl (by omega) (by omega) (by first | exact rd12 (by omega) | exact rdmr (by omega)) ?_
                refine R_aload_n (q := 70) (i := 0) rfl rfl rfl rfl ?_
                refine R_getR (q := 73) rfl rfl rfl rfl rfl (by omega) ?_
                refine R_bipush (q := 75) rfl rfl (by decide) ?_
                refine R_iald (q := 76) (v := tau M 9) rfl rfl rfl (by omega) (by omega) e9 ?_
                refine R_isub (q := 77) rfl rfl ?_
                refine R_goto (q := 80) (tgt := 91) rfl rfl (by decide) ?_
                refine R_ret rfl (Or.inl rfl) ?_
                exact Or.inr ⟨⟨hz4, hz5⟩, rfl, rfl⟩
            · omega
          · omega
      · refine R_iload_n (q := 1) (i := 1) rfl rfl rfl rfl ?_
        refine R_i2l (q := 2) rfl rfl (by omega) ?_
        refine R_lconst (q := 3) (v := 1) rfl rfl rfl ?_
        refine R_ldc2 (q := 6) rfl rfl rfl ?_
        refine R_cS3I (q := 9) (ci := 9) (C := C_X7_in) rfl rfl rfl rfl rfl ⟨_, _, _, rfl, (by first | trivial | assumption | omega)⟩ rfl rfl (fun x M' hc => ?_)
        replace hc := hc _ _ _ rfl
        rw [if_pos hz4] at hc
        obtain ⟨rfl, rfl⟩ := hc
        refine R_if_eq (q := 12) (tgt := 24) rfl rfl (by decide) (by omega) (fun h9 => ?_) (fun h9 => ?_)
        · omega
        · refine R_iload_n (q := 13) (i := 2) rfl rfl rfl rfl ?_
          refine R_i2l (q := 14) rfl rfl (by omega) ?_
          refine R_lconst (q := 15) (v := 0) rfl rfl rfl ?_
          refine R_ldc2 (q := 18) rfl rfl rfl ?_
          refine R_cS3I (q := 21) (ci := 9) (C := C_X7_in) rfl rfl rfl rfl rfl ⟨_, _, _, rfl, (by first | trivial | assumption | omega)⟩ rfl rfl (fun x M' hc => ?_)
          replace hc := hc _ _ _ rfl
          rw [if_pos hz5] at hc
          obtain ⟨rfl, rfl⟩ := hc
          refine R_if_ne (q := 24) (tgt := 27) rfl rfl (by decide) (by omega) (fun h21 => ?_) (fun h21 => ?_)
          · refine R_aload_n (q := 28) (i := 0) rfl rfl rfl rfl ?_
            refine R_iconst (q := 29) rfl rfl ?_
            refine R_bipush (q := 31) rfl rfl (by decide) ?_
            refine R_cV2N (q := 34) (ci := 7) (C := C_X7_copies) rfl rfl rfl rfl rfl ⟨_, _, _, rfl, ⟨rfl, by omega, by omega, by omega⟩⟩ rfl rfl (by omega) (fun M' hc => ?_)
            replace hc := hc _ _ _ rfl
            rw [show (662 : Int) * 0 = 0 from rfl, show (662 : Int) * 7 = 4634 from rfl, cp7'] at hc
            subst hc
            refine R_sipush (q := 37) rfl rfl (by decide) ?_
            refine R_istore_n (q := 38) (i := 3) rfl rfl rfl rfl ?_
            refine R_aload_n (q := 39) (i := 0) rfl rfl rfl rfl ?_
            refine R_iload_n (q := 40) (i := 3) rfl rfl rfl rfl ?_
            refine R_iload_n (q := 41) (i := 1) rfl rfl rfl rfl ?_
            refine R_cV2I (q := 44) (ci := 7) (C := C_X7_turnsBy) rfl rfl rfl rfl rfl ⟨_, _, _, rfl, ⟨rfl, by omega, by rw [sh_mr]; exact It, by omega⟩⟩ rfl rfl (by omega) (fun x M' hc => ?_)
            replace hc := hc _ _ _ rfl
            try simp only [sh_mr, mr_mr] at hc
            obtain ⟨rfl, rfl⟩ := hc
            refine R_istore (q := 46) rfl rfl rfl ?_
            refine R_iload_n (q := 47) (i := 2) rfl rfl rfl rfl ?_
            refine R_if_ne (q := 50) (tgt := 55) rfl rfl (by decide) (by omega) (fun h47 => ?_) (fun h47 => ?_)
            · refine R_iload_n (q := 56) (i := 2) rfl rfl rfl rfl ?_
              refine R_iconst (q := 57) rfl rfl ?_
              refine R_icmp_ne (q := 60) (tgt := 80) rfl rfl (by decide) (by omega) (by omega) (fun h57 => ?_) (fun h57 => ?_)
              · refine R_aload_n (q := 81) (i := 0) rfl rfl rfl rfl ?_
                refine R_iload_n (q := 82) (i := 3) rfl rfl rfl rfl ?_
                refine R_cV1I (q := 85) (ci := 7) (C := C_X7_taken) rfl rfl rfl rfl rfl ⟨_, _, rfl, ⟨rfl, by omega⟩⟩ rfl rfl (by omega) (fun x M' hc => ?_)
                replace hc := hc _ _ rfl
                rw [sh_mr] at hc
                obtain ⟨rfl, rfl⟩ := hc
                refine R_aload_n (q := 86) (i := 0) rfl rfl rfl rfl ?_
                refine R_iconst (q := 87) rfl rfl ?_
                refine R_cV1I (q := 90) (ci := 7) (C := C_X7_taken) rfl rfl rfl rfl rfl ⟨_, _, rfl, ⟨rfl, by omega⟩⟩ rfl rfl (by omega) (fun x M' hc => ?_)
                replace hc := hc _ _ rfl
                rw [sh_0, eT 11 (by omega) (by omega), eT 12 (by omega) (by omega), eT 13 (by omega) (by omega)] at hc
                obtain ⟨rfl, rfl⟩ := hc
                refine R_isub (q := 91) rfl rfl ?_
                refine R_ret rfl (Or.inl rfl) ?_
                exact Or.inr ⟨⟨hz4, hz5⟩, rfl, rfl⟩
              · omega
            · omega
          · omega
    · refine R_iload_n (q := 1) (i := 1) rfl rfl rfl rfl ?_
      refine R_i2l (q := 2) rfl rfl (by omega) ?_
      refine R_lconst (q := 3) (v := 1) rfl rfl rfl ?_
      refine R_ldc2 (q := 6) rfl rfl rfl ?_
      refine R_cS3I (q := 9) (ci := 9) (C := C_X7_in) rfl rfl rfl rfl rfl ⟨_, _, _, rfl, (by first | trivial | assumption | omega)⟩ rfl rfl (fun x M' hc => ?_)
      replace hc := hc _ _ _ rfl
      rw [if_pos hz4] at hc
      obtain ⟨rfl, rfl⟩ := hc
      refine R_if_eq (q := 12) (tgt := 24) rfl rfl (by decide) (by omega) (fun h9 => ?_) (fun h9 => ?_)
      · omega
      · refine R_iload_n (q := 13) (i := 2) rfl rfl rfl rfl ?_
        refine R_i2l (q := 14) rfl rfl (by omega) ?_
        refine R_lconst (q := 15) (v := 0) rfl rfl rfl ?_
        refine R_ldc2 (q := 18) rfl rfl rfl ?_
        refine R_cS3I (q := 21) (ci := 9) (C := C_X7_in) rfl rfl rfl rfl rfl ⟨_, _, _, rfl, (by first | trivial | assumption | omega)⟩ rfl rfl (fun x M' hc => ?_)
        replace hc := hc _ _ _ rfl
        rw [if_neg hz5] at hc
        obtain ⟨rfl, rfl⟩ := hc
        refine R_if_ne (q := 24) (tgt := 27) rfl rfl (by decide) (by omega) (fun h21 => ?_) (fun h21 => ?_)
        · omega
        · refine R_bipush (q := 26) rfl rfl (by decide) ?_
          refine R_ret rfl (Or.inl rfl) ?_
          exact Or.inl ⟨fun z => hz5 z.2, rfl, rfl⟩
  · refine R_iload_n (q := 1) (i := 1) rfl rfl rfl rfl ?_
    refine R_i2l (q := 2) rfl rfl (by omega) ?_
    refine R_lconst (q := 3) (v := 1) rfl rfl rfl ?_
    refine R_ldc2 (q := 6) rfl rfl rfl ?_
    refine R_cS3I (q := 9) (ci := 9) (C := C_X7_in) rfl rfl rfl rfl rfl ⟨_, _, _, rfl, (by first | trivial | assumption | omega)⟩ rfl rfl (fun x M' hc => ?_)
    replace hc := hc _ _ _ rfl
    rw [if_neg hz4] at hc
    obtain ⟨rfl, rfl⟩ := hc
    refine R_if_eq (q := 12) (tgt := 24) rfl rfl (by decide) (by omega) (fun h9 => ?_) (fun h9 => ?_)
    · refine R_bipush (q := 26) rfl rfl (by decide) ?_
      refine R_ret rfl (Or.inl rfl) ?_
      exact Or.inl ⟨fun z => hz4 z.1, rfl, rfl⟩
    · omega
set_option maxRecDepth 100000 in
theorem mt_X7_ifTurned : MtOK yX7_ifTurned cX7_ifTurned 5 (some .int) 8 C_X7_ifTurned := by
  refine mt_of sx_X7_ifTurned (by decide +kernel) (Or.inl ⟨rfl, rfl, rfl⟩) (by decide +kernel) fdX7_ok kLX7_ok kIX7_ok sgX7_ok ntX7_ok
    (all_cons (clokS mt_X7_in (GT_at 588 (by decide +kernel) (by decide +kernel)) (GT_at 44 (by decide +kernel) (by decide +kernel)) (GT_at 590 (by decide +kernel) (by decide +kernel)) (by decide +kernel) (by decide) (GT_at 589 (by decide +kernel) (by decide +kernel))) (all_cons (clokV mt_X7_copies rfl (GT_at 604 (by decide +kernel) (by decide +kernel)) (GT_at 44 (by decide +kernel) (by decide +kernel)) (GT_at 607 (by decide +kernel) (by decide +kernel)) (by decide +kernel) (by decide) (GT_at 606 (by decide +kernel) (by decide +kernel)) (GT_at 12 (by decide +kernel) (by decide +kernel)) rfl rfl) (all_cons (clokV mt_X7_turnsBy rfl (GT_at 717 (by decide +kernel) (by decide +kernel)) (GT_at 44 (by decide +kernel) (by decide +kernel)) (GT_at 720 (by decide +kernel) (by decide +kernel)) (by decide +kernel) (by decide) (GT_at 719 (by decide +kernel) (by decide +kernel)) (GT_at 26 (by decide +kernel) (by decide +kernel)) rfl rfl) (all_cons (clokV mt_X7_taken rfl (GT_at 774 (by decide +kernel) (by decide +kernel)) (GT_at 44 (by decide +kernel) (by decide +kernel)) (GT_at 777 (by decide +kernel) (by decide +kernel)) (by decide +kernel) (by decide) (GT_at 776 (by decide +kernel) (by decide +kernel)) (GT_at 35 (by decide +kernel) (by decide +kernel)) rfl rfl) (all_nil))))) ?_ ?_
  · rintro as M - ⟨o, n, w, rfl, hp⟩
    exact Nat.le_of_ble_eq_true rfl
  · rintro L scr as M - ⟨o, n, w, rfl, hp⟩
    exact Runs.mono (fun x M' h _ _ _ e => by cases e; exact h) (ok_X7_ifTurned L scr o n w M hp)
