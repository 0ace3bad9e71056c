def bhU (f : Int → Int) (d : Int) : Int → Int := us f (26 + 4 * d) (f (26 + 4 * d) + 1)
/-- the best desk so far, and how many pass with a hand more there -/
noncomputable def bhP (f : Int → Int) : Nat → Int × Int
  | 0 => (-6, psn 5 f)
  | n + 1 => if f (26 + 4 * (n : Int)) < 3 ∧ (bhP f n).2 < psn 5 (bhU f (n : Int)) then ((n : Int), psn 5 (bhU f (n : Int))) else bhP f n
theorem gone_bd {f : Int → Int} (I : Inv f) : (0 ≤ f 8 ∧ f 8 ≤ 64) ∧ (0 ≤ f 9 ∧ f 9 ≤ 64) := by
  have i7 := I.2.1
  have a := cF_bd f 1 (f 7).toNat
  have b := cF_bd f 2 (f 7).toNat
  have c := I.2.2.2.2.2.2.2.1
  have d := I.2.2.2.2.2.2.2.2.1
  omega
theorem psn_bd {f : Int → Int} (n : Nat) (I : Inv f) : -200 ≤ psn n f ∧ psn n f ≤ 200 := by
  have a := gone_bd I
  have b := gone_bd (tnN_Inv n f I).1
  unfold psn
  omega
theorem bhU_Inv {f : Int → Int} {d : Int} (hd : 0 ≤ d ∧ d < 3) (I : Inv f) (h : f (26 + 4 * d) < 3) : Inv (bhU f d) := by
  obtain ⟨iB, i7, iC, i16, iD, iE, iF, g8, g9, g10, g14⟩ := I
  have o : ∀ j, j ≠ 26 + 4 * d → bhU f d j = f j := fun j h => us_n h
  have s : bhU f d (26 + 4 * d) = f (26 + 4 * d) + 1 := us_s
  have c := iC d hd.1 hd.2
  have e7 := o 7 (by omega)
  refine ⟨Bd_keep iB (fun j _ _ => o j (by omega)) (fun j _ _ => o j (by omega)) (fun t _ _ => ⟨o _ (by omega), o _ (by omega), o _ (by omega), o _ (by omega)⟩), by rw [o 6 (by omega), e7]; exact i7, fun e a b => ?_, by rw [o 27 (by omega), o 31 (by omega), o 35 (by omega)]; exact i16, fun e p q => ?_, fun e p e' p' q q' hh => ?_, fun t a b => ?_, ?_, ?_, ?_, ?_⟩
  · rw [o (27 + 4 * e) (by omega)]
    by_cases z : e = d
    · subst z
      rw [s]
      omega
    · rw [o _ (by omega)]
      exact iC e a b
  · obtain ⟨a, b, x, y⟩ := q
    rw [o _ (by omega)] at y
    have := iD e p ⟨a, b, x, y⟩
    rw [o (38 + 16 * e + p) (by omega), e7, o (90 + 9 * f (38 + 16 * e + p)) (by omega)]
    exact this
  · obtain ⟨a, b, x, y⟩ := q
    obtain ⟨a', b', x', y'⟩ := q'
    rw [o _ (by omega)] at y y'
    rw [o _ (by omega), o _ (by omega)] at hh
    exact iE e p e' p' ⟨a, b, x, y⟩ ⟨a', b', x', y'⟩ hh
  · rw [e7] at b
    rw [o _ (by omega), o _ (by omega)]
    obtain ⟨r1, r2, r3⟩ := iF t a b
    refine ⟨r1, r2, fun z => ⟨(r3 z).1, ?_⟩⟩
    obtain ⟨e, p, ⟨x1, x2, x3, x4⟩, h2⟩ := (r3 z).2
    exact ⟨e, p, ⟨x1, x2, x3, by rw [o _ (by omega)]; exact x4⟩, by rw [o _ (by omega)]; exact h2⟩
  · rw [o 8 (by omega), e7, g8]
    exact (cF_same _ (fun t a b => o _ (by omega))).symm
  · rw [o 9 (by omega), e7, g9]
    exact (cF_same _ (fun t a b => o _ (by omega))).symm
  · rw [o 10 (by omega), e7, g10]
    exact (cF_same _ (fun t a b => o _ (by omega))).symm
  · rw [o 14 (by omega), e7, g14]
    exact (cU_same _ (fun t a b => ⟨o _ (by omega), o _ (by omega)⟩)).symm
theorem Out_bhU {f g : Int → Int} {d : Int} (hd : 0 ≤ d ∧ d < 3) (h : Out f g) : Out (bhU f d) g := fun j hj => (us_n (by omega)).trans (h j hj)
theorem bhP_bd {f : Int → Int} (I : Inv f) : ∀ n : Nat, n ≤ 3 → -200 ≤ (bhP f n).2 ∧ (bhP f n).2 ≤ 200
  | 0, _ => psn_bd 5 I
  | n + 1, h => by
    unfold bhP
    by_cases e : f (26 + 4 * (n : Int)) < 3 ∧ (bhP f n).2 < psn 5 (bhU f (n : Int))
    · rw [if_pos e]
      exact psn_bd 5 (bhU_Inv (by omega) I e.1)
    · rw [if_neg e]
      exact bhP_bd I n (by omega)
abbrev C_X7_bestHand : Ct := (1, true, fun as M => ∃ (o : Nat), as = [wR o] ∧ (o = 11 ∧ Inv (M 12)), fun as M x M' => ∀ (o : Nat), as = [wR o] → (x = (bhP (tau M) 3).1 ∧ Tr M M'))
def sx_X7_bestHand : Sx := (tb_X7_bestHand, fdX7, kLX7, kIX7, sgX7, ntX7, [(177, (7, C_X7_ifTurned)), (20, (9, C_X7_deskAt)), (28, (7, C_X7_copies)), (160, (7, C_X7_turnsBy))], 1)
set_option maxRecDepth 100000 in
set_option maxHeartbeats 1000000 in
theorem ok_X7_bestHand (L : Nat) (scr : Int → Int) (o : Nat) (M : Mem) (hp : o = 11 ∧ Inv (M 12)) : Runs sx_X7_bestHand L (xcF scr) (fun x M' => x = (bhP (tau M) 3).1 ∧ Tr M M') 0 [wR o, none, none, none, none, none] [] M := by
  obtain ⟨rfl, I⟩ := hp
  have It := tau_Inv I
  have tw := tau_w (M := M)
  have L1 : ∀ (n k : Nat) (g : Int → Int) (x5 : PV), k + n = 3 → Out g (tau M) → Runs sx_X7_bestHand L (xcF scr) (fun x M' => x = (bhP (tau M) 3).1 ∧ Tr M M') 17 [wR 11, wI 4634, wI (bhP (tau M) k).1, wI (bhP (tau M) k).2, wI (k : Int), x5] [] (mr 4634 M g) := by
    intro n
    induction n with
    | zero =>
      intro k g x5 hk hg
      have hk : k = 3 := by omega
      subst hk
      refine R_iload (q := 19) rfl rfl rfl ?_
      refine R_iconst (q := 20) rfl rfl ?_
      refine R_icmp_ge (q := 23) (tgt := 100) rfl rfl (by decide) (by omega) (by omega) (fun h20 => ?_) (fun h20 => ?_)
      · refine R_iload_n (q := 101) (i := 2) rfl rfl rfl rfl ?_
        refine R_ret rfl (Or.inl rfl) ?_
        exact ⟨rfl, Tr_mr hg⟩
      · omega
    | succ n ih =>
      intro k g x5 hk hg
      have c := It.2.2.1 (k : Int) (by omega) (by omega)
      have pb := bhP_bd It k (by omega)
      have e33 : mr 4634 M g 12 (26 + 4 * (k : Int)) = tau M (26 + 4 * (k : Int)) := by rw [(Tr_mr hg).1 _ (by omega), tw _ (by omega) (by omega)]
      by_cases hh : tau M (26 + 4 * (k : Int)) < 3
      · have iU := bhU_Inv (d := (k : Int)) (by omega) It hh
        have oU := Out_tnN 5 iU (Out_bhU (d := (k : Int)) (by omega) (tau_Out (M := M)))
        have pU := psn_bd 5 iU
        by_cases hm : (bhP (tau M) k).2 < psn 5 (bhU (tau M) (k : Int))
        · have e : bhP (tau M) (k + 1) = ((k : Int), psn 5 (bhU (tau M) (k : Int))) := if_pos ⟨hh, hm⟩
          have z := ih (k + 1) (tnN 5 (bhU (tau M) (k : Int))) (wI (psn 5 (bhU (tau M) (k : Int)))) (by omega) oU
          rw [e] at z
          refine R_iload (q := 19) rfl rfl rfl ?_
          refine R_iconst (q := 20) rfl rfl ?_
          refine R_icmp_ge (q := 23) (tgt := 100) rfl rfl (by decide) (by omega) (by omega) (fun h20 => ?_) (fun h20 => ?_)
          · omega
          · refine R_aload_n (q := 24) (i := 0) rfl rfl rfl rfl ?_
            refine R_getR (q := 27) rfl rfl rfl rfl rfl (by omega) ?_
            refine R_iconst (q := 28) rfl rfl ?_
            refine R_iload (q := 30) rfl rfl rfl ?_
            refine R_cS2I (q := 33) (ci := 9) (C := C_X7_deskAt) rfl rfl rfl rfl rfl ⟨_, _, rfl, (by first | trivial | assumption | omega)⟩ rfl rfl (fun x M' hc => ?_)
            replace hc := hc _ _ rfl
            try simp only [sh_mr, mr_mr] at hc
            obtain ⟨rfl, rfl⟩ := hc
            refine R_iald (q := 34) (v := tau M (26 + 4 * (k : Int))) rfl rfl rfl (by omega) (by omega) (Eq.trans (congrArg (mr 4634 M g 12) (by omega)) e33) ?_
            refine R_iconst (q := 35) rfl rfl ?_
            refine R_icmp_ge (q := 38) (tgt := 94) rfl rfl (by decide) (by omega) (by omega) (fun h35 => ?_) (fun h35 => ?_)
            · omega
            · refine R_aload_n (q := 39) (i := 0) rfl rfl rfl rfl ?_
              refine R_iconst (q := 40) rfl rfl ?_
              refine R_bipush (q := 42) rfl rfl (by decide) ?_
              refine R_cV2N (q := 45) (ci := 7) (C := C_X7_copies) rfl rfl rfl rfl rfl ⟨_, _, _, rfl, ⟨rfl, by omega, by omega, by omega⟩⟩ rfl rfl (by omega) (fun M' hc => ?_)
              replace hc := hc _ _ _ rfl
              rw [show (662 : Int) * 0 = 0 from rfl, show (662 : Int) * 7 = 4634 from rfl, cp7 hg] at hc
              subst hc
              refine R_aload_n (q := 46) (i := 0) rfl rfl rfl rfl ?_
              refine R_getR (q := 49) rfl rfl rfl rfl rfl (by omega) ?_
              refine R_iload_n (q := 50) (i := 1) rfl rfl rfl rfl ?_
              refine R_iload (q := 52) rfl rfl rfl ?_
              refine R_cS2I (q := 55) (ci := 9) (C := C_X7_deskAt) rfl rfl rfl rfl rfl ⟨_, _, rfl, (by first | trivial | assumption | omega)⟩ rfl rfl (fun x M' hc => ?_)
              replace hc := hc _ _ rfl
              try simp only [sh_mr, mr_mr] at hc
              obtain ⟨rfl, rfl⟩ := hc
              refine R_dup2 (q := 56) rfl rfl rfl rfl ?_
              refine R_iald (q := 57) (v := tau M (26 + 4 * (k : Int))) rfl rfl rfl (by omega) (by omega) (by first | exact rd12 (by omega) | exact rdmr (by omega)) ?_
              refine R_iconst (q := 58) rfl rfl ?_
              refine R_iadd (q := 59) rfl rfl ?_
              refine R_iast (q := 60) (M2 := mr 4634 M (bhU (tau M) (k : Int))) rfl rfl rfl (by omega) (by omega) (upmr (by omega)) ?_
              refine R_aload_n (q := 61) (i := 0) rfl rfl rfl rfl ?_
              refine R_iload_n (q := 62) (i := 1) rfl rfl rfl rfl ?_
              refine R_iconst (q := 63) rfl rfl ?_
              refine R_cV2I (q := 66) (ci := 7) (C := C_X7_turnsBy) rfl rfl rfl rfl rfl ⟨_, _, _, rfl, ⟨rfl, by omega, by rw [sh_mr]; exact iU, by omega⟩⟩ rfl rfl (by omega) (fun x M' hc => ?_)
              replace hc := hc _ _ _ rfl
              obtain ⟨hx, hc⟩ := hc
              rw [mr_mr] at hc
              simp only [sh_mr, show (5 : Int).toNat = 5 from rfl] at hx hc
              change psn 5 (bhU (tau M) (k : Int)) = x at hx
              subst hx
              subst hc
              refine R_istore (q := 68) rfl rfl rfl ?_
              refine R_iload (q := 70) rfl rfl rfl ?_
              refine R_iload_n (q := 71) (i := 3) rfl rfl rfl rfl ?_
              refine R_icmp_le (q := 74) (tgt := 79) rfl rfl (by decide) (by omega) (by omega) (fun h71 => ?_) (fun h71 => ?_)
              · omega
              · refine R_iload (q := 76) rfl rfl rfl ?_
                refine R_goto (q := 79) (tgt := 80) rfl rfl (by decide) ?_
                refine R_istore_n (q := 81) (i := 2) rfl rfl rfl rfl ?_
                refine R_iload (q := 83) rfl rfl rfl ?_
                refine R_iload_n (q := 84) (i := 3) rfl rfl rfl rfl ?_
                refine R_icmp_le (q := 87) (tgt := 92) rfl rfl (by decide) (by omega) (by omega) (fun h84 => ?_) (fun h84 => ?_)
                · omega
                · refine R_iload (q := 89) rfl rfl rfl ?_
                  refine R_goto (q := 92) (tgt := 93) rfl rfl (by decide) ?_
                  refine R_istore_n (q := 94) (i := 3) rfl rfl rfl rfl ?_
                  refine R_iinc (q := 97) rfl rfl rfl rfl ?_
                  refine R_goto (q := 100) (tgt := 17) rfl rfl (by decide) ?_
                  exact z
        · have e : bhP (tau M) (k + 1) = bhP (tau M) k := if_neg (fun y => hm y.2)
          have z := ih (k + 1) (tnN 5 (bhU (tau M) (k : Int))) (wI (psn 5 (bhU (tau M) (k : Int)))) (by omega) oU
          rw [e] at z
          refine R_iload (q := 19) rfl rfl rfl ?_
          refine R_iconst (q := 20) rfl rfl ?_
          refine R_icmp_ge (q := 23) (tgt := 100) rfl rfl (by decide) (by omega) (by omega) (fun h20 => ?_) (fun h20 => ?_)
          · omega
          · refine R_aload_n (q := 24) (i := 0) rfl rfl rfl rfl ?_
            refine R_getR (q := 27) rfl rfl rfl rfl rfl (by omega) ?_
            refine R_iconst (q := 28) rfl rfl ?_
            refine R_iload (q := 30) rfl rfl rfl ?_
            refine R_cS2I (q := 33) (ci := 9) (C := C_X7_deskAt) rfl rfl rfl rfl rfl ⟨_, _, rfl, (by first | trivial | assumption | omega)⟩ rfl rfl (fun x M' hc => ?_)
            replace hc := hc _ _ rfl
            try simp only [sh_mr, mr_mr] at hc
            obtain ⟨rfl, rfl⟩ := hc
            refine R_iald (q := 34) (v := tau M (26 + 4 * (k : Int))) rfl rfl rfl (by omega) (by omega) (Eq.trans (congrArg (mr 4634 M g 12) (by omega)) e33) ?_
            refine R_iconst (q := 35) rfl rfl ?_
            refine R_icmp_ge (q := 38) (tgt := 94) rfl rfl (by decide) (by omega) (by omega) (fun h35 => ?_) (fun h35 => ?_)
            · omega
            · refine R_aload_n (q := 39) (i := 0) rfl rfl rfl rfl ?_
              refine R_iconst (q := 40) rfl rfl ?_
              refine R_bipush (q := 42) rfl rfl (by decide) ?_
              refine R_cV2N (q := 45) (ci := 7) (C := C_X7_copies) rfl rfl rfl rfl rfl ⟨_, _, _, rfl, ⟨rfl, by omega, by omega, by omega⟩⟩ rfl rfl (by omega) (fun M' hc => ?_)
              replace hc := hc _ _ _ rfl
              rw [show (662 : Int) * 0 = 0 from rfl, show (662 : Int) * 7 = 4634 from rfl, cp7 hg] at hc
              subst hc
              refine R_aload_n (q := 46) (i := 0) rfl rfl rfl rfl ?_
              refine R_getR (q := 49) rfl rfl rfl rfl rfl (by omega) ?_
              refine R_iload_n (q := 50) (i := 1) rfl rfl rfl rfl ?_
              refine R_iload (q := 52) rfl rfl rfl ?_
              refine R_cS2I (q := 55) (ci := 9) (C := C_X7_deskAt) rfl rfl rfl rfl rfl ⟨_, _, rfl, (by first | trivial | assumption | omega)⟩ rfl rfl (fun x M' hc => ?_)
              replace hc := hc _ _ rfl
              try simp only [sh_mr, mr_mr] at hc
              obtain ⟨rfl, rfl⟩ := hc
              refine R_dup2 (q := 56) rfl rfl rfl rfl ?_
              refine R_iald (q := 57) (v := tau M (26 + 4 * (k : Int))) rfl rfl rfl (by omega) (by omega) (by first | exact rd12 (by omega) | exact rdmr (by omega)) ?_
              refine R_iconst (q := 58) rfl rfl ?_
              refine R_iadd (q := 59) rfl rfl ?_
              refine R_iast (q := 60) (M2 := mr 4634 M (bhU (tau M) (k : Int))) rfl rfl rfl (by omega) (by omega) (upmr (by omega)) ?_
              refine R_aload_n (q := 61) (i := 0) rfl rfl rfl rfl ?_
              refine R_iload_n (q := 62) (i := 1) rfl rfl rfl rfl ?_
              refine R_iconst (q := 63) rfl rfl ?_
              refine R_cV2I (q := 66) (ci := 7) (C := C_X7_turnsBy) rfl rfl rfl rfl rfl ⟨_, _, _, rfl, ⟨rfl, by omega, by rw [sh_mr]; exact iU, by omega⟩⟩ rfl rfl (by omega) (fun x M' hc => ?_)
              replace hc := hc _ _ _ rfl
              obtain ⟨hx, hc⟩ := hc
              rw [mr_mr] at hc
              simp only [sh_mr, show (5 : Int).toNat = 5 from rfl] at hx hc
              change psn 5 (bhU (tau M) (k : Int)) = x at hx
              subst hx
              subst hc
              refine R_istore (q := 68) rfl rfl rfl ?_
              refine R_iload (q := 70) rfl rfl rfl ?_
              refine R_iload_n (q := 71) (i := 3) rfl rfl rfl rfl ?_
              refine R_icmp_le (q := 74) (tgt := 79) rfl rfl (by decide) (by omega) (by omega) (fun h71 => ?_) (fun h71 => ?_)
              · refine R_iload_n (q := 80) (i := 2) rfl rfl rfl rfl ?_
                refine R_istore_n (q := 81) (i := 2) rfl rfl rfl rfl ?_
                refine R_iload (q := 83) rfl rfl rfl ?_
                refine R_iload_n (q := 84) (i := 3) rfl rfl rfl rfl ?_
                refine R_icmp_le (q := 87) (tgt := 92) rfl rfl (by decide) (by omega) (by omega) (fun h84 => ?_) (fun h84 => ?_)
                · refine R_iload_n (q := 93) (i := 3) rfl rfl rfl rfl ?_
                  refine R_istore_n (q := 94) (i := 3) rfl rfl rfl rfl ?_
                  refine R_iinc (q := 97) rfl rfl rfl rfl ?_
                  refine R_goto (q := 100) (tgt := 17) rfl rfl (by decide) ?_
                  exact z
                · omega
              · omega
      · have e : bhP (tau M) (k + 1) = bhP (tau M) k := if_neg (fun y => hh y.1)
        have z := ih (k + 1) g x5 (by omega) hg
        rw [e] at z
        refine R_iload (q := 19) rfl rfl rfl ?_
        refine R_iconst (q := 20) rfl rfl ?_
        refine R_icmp_ge (q := 23) (tgt := 100) rfl rfl (by decide) (by omega) (by omega) (fun h20 => ?_) (fun h20 => ?_)
        · omega
        · refine R_aload_n (q := 24) (i := 0) rfl rfl rfl rfl ?_
          refine R_getR (q := 27) rfl rfl rfl rfl rfl (by omega) ?_
          refine R_iconst (q := 28) rfl rfl ?_
          refine R_iload (q := 30) rfl rfl rfl ?_
          refine R_cS2I (q := 33) (ci := 9) (C := C_X7_deskAt) rfl rfl rfl rfl rfl ⟨_, _, rfl, (by first | trivial | assumption | omega)⟩ rfl rfl (fun x M' hc => ?_)
          replace hc := hc _ _ rfl
          try simp only [sh_mr, mr_mr] at hc
          obtain ⟨rfl, rfl⟩ := hc
          refine R_iald (q := 34) (v := tau M (26 + 4 * (k : Int))) rfl rfl rfl (by omega) (by omega) (Eq.trans (congrArg (mr 4634 M g 12) (by omega)) e33) ?_
          refine R_iconst (q := 35) rfl rfl ?_
          refine R_icmp_ge (q := 38) (tgt := 94) rfl rfl (by decide) (by omega) (by omega) (fun h35 => ?_) (fun h35 => ?_)
          · refine R_iinc (q := 97) rfl rfl rfl rfl ?_
            refine R_goto (q := 100) (tgt := 17) rfl rfl (by decide) ?_
            exact z
          · omega
  refine R_sipush (q := 3) rfl rfl (by decide) ?_
  refine R_istore_n (q := 4) (i := 1) rfl rfl rfl rfl ?_
  refine R_bipush (q := 6) rfl rfl (by decide) ?_
  refine R_istore_n (q := 7) (i := 2) rfl rfl rfl rfl ?_
  refine R_aload_n (q := 8) (i := 0) rfl rfl rfl rfl ?_
  refine R_iconst (q := 9) rfl rfl ?_
  refine R_iconst (q := 10) rfl rfl ?_
  refine R_cV2I (q := 13) (ci := 7) (C := C_X7_ifTurned) rfl rfl rfl rfl rfl ⟨_, _, _, rfl, ⟨rfl, by omega, by omega, I⟩⟩ rfl rfl (by omega) (fun x M' hc => ?_)
  replace hc := hc _ _ _ rfl
  have ok5 : itOK 5 0 := ⟨by omega, by omega⟩
  rcases hc with ⟨hc, -⟩ | ⟨-, hx, hc⟩
  · exact absurd ok5 hc
  unfold itV at hx
  rw [if_pos rfl, show (5 : Int).toNat = 5 from rfl] at hx
  rw [show (5 : Int).toNat = 5 from rfl] at hc
  subst hx
  subst hc
  refine R_istore_n (q := 14) (i := 3) rfl rfl rfl rfl ?_
  refine R_iconst (q := 15) rfl rfl ?_
  refine R_istore (q := 17) rfl rfl rfl ?_
  exact L1 3 0 (tnN 5 (tau M)) none rfl (Out_tnN 5 It tau_Out)
set_option maxRecDepth 100000 in
theorem mt_X7_bestHand : MtOK yX7_bestHand cX7_bestHand 6 (some .int) 9 C_X7_bestHand := by
  refine mt_of sx_X7_bestHand (by decide +kernel) (Or.inl ⟨rfl, rfl, rfl⟩) (by decide +kernel) fdX7_ok kLX7_ok kIX7_ok sgX7_ok ntX7_ok
    (all_cons (clokV mt_X7_ifTurned rfl (GT_at 802 (by decide +kernel) (by decide +kernel)) (GT_at 44 (by decide +kernel) (by decide +kernel)) (GT_at 797 (by decide +kernel) (by decide +kernel)) (by decide +kernel) (by decide) (GT_at 795 (by decide +kernel) (by decide +kernel)) (GT_at 796 (by decide +kernel) (by decide +kernel)) rfl rfl) (all_cons (clokS mt_X7_deskAt (GT_at 555 (by decide +kernel) (by decide +kernel)) (GT_at 44 (by decide +kernel) (by decide +kernel)) (GT_at 557 (by decide +kernel) (by decide +kernel)) (by decide +kernel) (by decide) (GT_at 556 (by decide +kernel) (by decide +kernel))) (all_cons (clokV mt_X7_copies rfl (GT_at 604 (by decide +kernel) (by decide +kernel)) (GT_at 44 (by decide +kernel) (by decide +kernel)) (GT_at 607 (by decide +kernel) (by decide +kernel)) (by decide +kernel) (by decide) (GT_at 606 (by decide +kernel) (by decide +kernel)) (GT_at 12 (by decide +kernel) (by decide +kernel)) rfl rfl) (all_cons (clokV mt_X7_turnsBy rfl (GT_at 717 (by decide +kernel) (by decide +kernel)) (GT_at 44 (by decide +kernel) (by decide +kernel)) (GT_at 720 (by decide +kernel) (by decide +kernel)) (by decide +kernel) (by decide) (GT_at 719 (by decide +kernel) (by decide +kernel)) (GT_at 26 (by decide +kernel) (by decide +kernel)) rfl rfl) (all_nil))))) ?_ ?_
  · rintro as M - ⟨o, rfl, hp⟩
    exact Nat.le_of_ble_eq_true rfl
  · rintro L scr as M - ⟨o, rfl, hp⟩
    exact Runs.mono (fun x M' h _ e => by cases e; exact h) (ok_X7_bestHand L scr o M hp)
