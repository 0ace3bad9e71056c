/-- the trunk that comes -/
def adF (f : Int → Int) (ct up lo tr : Int) : Int → Int := fun j =>
  if j = 7 then f 7 + 1 else if j = 86 + 9 * f 7 then ct else if j = 87 + 9 * f 7 then up else if j = 88 + 9 * f 7 then lo else if j = 89 + 9 * f 7 then tr else if j = 92 + 9 * f 7 then f 6 else if 90 + 9 * f 7 ≤ j ∧ j ≤ 94 + 9 * f 7 then 0 else f j
def adm (f : Int → Int) (ct up lo tr : Int) : Int → Int := jn (adF f ct up lo tr) 0 (f 7)
theorem flt_ok {c : Int → Int} {n : Int} (h : flt c n = -6) : (0 < n ∧ 48 ≤ c 0 ∧ c 0 ≤ 52) ∧ (1 < n ∧ c 1 = 58) ∧ (r1 c n).1 = 1 ∧ ((r1 c n).2.1 < n ∧ c (r1 c n).2.1 = 47) ∧ (r2 c n).1 = 1 ∧ (((r2 c n).2.1 < n ∧ c (r2 c n).2.1 = 61 ∧ (r3 c n).1 = 1 ∧ (r3 c n).2.1 = n) ∨ (r2 c n).2.1 = n) := by
  unfold flt at h
  by_cases HA : 0 < n ∧ 48 ≤ c 0 ∧ c 0 ≤ 52
  · rw [if_neg (not_not_intro HA)] at h
    by_cases HB : 1 < n ∧ c 1 = 58
    · rw [if_neg (not_not_intro HB)] at h
      have b1 := rdp_bd (c := c) (n := n) 6 2 97 0 (by omega)
      rw [r1_eq] at b1
      by_cases HR : (r1 c n).1 = 0
      · rw [if_pos HR] at h
        omega
      · rw [if_neg HR] at h
        by_cases HC : (r1 c n).2.1 < n ∧ c (r1 c n).2.1 = 47
        · rw [if_neg (not_not_intro HC)] at h
          have b2 := rdp_bd (c := c) (n := n) 6 ((r1 c n).2.1 + 1) 97 0 (by omega)
          rw [r2_eq] at b2
          by_cases HS : (r2 c n).1 = 0
          · rw [if_pos HS] at h
            omega
          · rw [if_neg HS] at h
            refine ⟨HA, HB, by omega, HC, by omega, ?_⟩
            by_cases HE : (r2 c n).2.1 < n ∧ c (r2 c n).2.1 = 61
            · rw [if_pos HE] at h
              have b3 := rdp_bd (c := c) (n := n) 6 ((r2 c n).2.1 + 1) 97 0 (by omega)
              rw [r3_eq] at b3
              by_cases HT : (r3 c n).1 = 0
              · rw [if_pos HT] at h
                omega
              · rw [if_neg HT] at h
                by_cases HN : (r3 c n).2.1 = n
                · exact Or.inl ⟨HE.1, HE.2, by omega, HN⟩
                · rw [if_neg HN] at h
                  omega
            · rw [if_neg HE] at h
              by_cases HN : (r2 c n).2.1 = n
              · exact Or.inr HN
              · rw [if_neg HN] at h
                omega
        · rw [if_pos HC] at h
          omega
    · rw [if_pos HB] at h
      omega
  · rw [if_pos HA] at h
    omega
theorem mr_Sp {M M' : Mem} {g : Int → Int} (h : Sp (mr 0 M g) M') : M' 12 = g := by
  rw [h.2 12 (by decide), mr_0, sta_12]
abbrev C_X7_read : Ct := (1, true, fun as M => ∃ (o : Nat), as = [wR o] ∧ (o = 11 ∧ PdM M ∧ Inv (M 12) ∧ 0 ≤ M 11 1 ∧ M 11 1 ≤ 4), fun as M x M' => ∀ (o : Nat), as = [wR o] → ((flt (M 14) (M 11 4) ≠ -6 ∧ x = -3 ∧ Sp M M') ∨ (flt (M 14) (M 11 4) = -6 ∧ (M 12 27 + M 12 31 + M 12 35 = 16 ∨ M 12 7 = 64) ∧ x = -4 ∧ Sp M M') ∨ (flt (M 14) (M 11 4) = -6 ∧ ¬ (M 12 27 + M 12 31 + M 12 35 = 16 ∨ M 12 7 = 64) ∧ x = M 12 7 ∧ (∃ g, Wn g (M 12) ∧ Chg M M' (adm g (M 14 0 - 48) (r1 (M 14) (M 11 4)).2.2 (r2 (M 14) (M 11 4)).2.2 (pTr (M 14) (M 11 4)))) ∧ Fr M M' ∧ M' 11 4 = 0)))
def sx_X7_read : Sx := (tb_X7_read, fdX7, kLX7, kIX7, sgX7, ntX7, [(132, (7, C_X7_fault)), (136, (7, C_X7_waiting)), (32, (7, C_X7_changes)), (39, (9, C_X7_trunkAt)), (142, (7, C_X7_readsPaper)), (76, (7, C_X7_joins))], 1)
set_option maxRecDepth 100000 in
set_option maxHeartbeats 1000000 in
theorem ok_X7_read (L : Nat) (scr : Int → Int) (o : Nat) (M : Mem) (hp : o = 11 ∧ PdM M ∧ Inv (M 12) ∧ 0 ≤ M 11 1 ∧ M 11 1 ≤ 4) : Runs sx_X7_read L (xcF scr) (fun x M' => (flt (M 14) (M 11 4) ≠ -6 ∧ x = -3 ∧ Sp M M') ∨ (flt (M 14) (M 11 4) = -6 ∧ (M 12 27 + M 12 31 + M 12 35 = 16 ∨ M 12 7 = 64) ∧ x = -4 ∧ Sp M M') ∨ (flt (M 14) (M 11 4) = -6 ∧ ¬ (M 12 27 + M 12 31 + M 12 35 = 16 ∨ M 12 7 = 64) ∧ x = M 12 7 ∧ (∃ g, Wn g (M 12) ∧ Chg M M' (adm g (M 14 0 - 48) (r1 (M 14) (M 11 4)).2.2 (r2 (M 14) (M 11 4)).2.2 (pTr (M 14) (M 11 4)))) ∧ Fr M M' ∧ M' 11 4 = 0)) 0 [wR o, none, none, none] [] M := by
  obtain ⟨rfl, pd, I, hs⟩ := hp
  have p60 := pd.1
  have i7 := I.2.1
  have l0 := I.le (d := 0) (by omega) (by omega)
  have l1 := I.le (d := 1) (by omega) (by omega)
  have l2 := I.le (d := 2) (by omega) (by omega)
  have m0 : M 12 (27 + 4 * 0) = M 12 27 := rfl
  have m1 : M 12 (27 + 4 * 1) = M 12 31 := rfl
  have m2 : M 12 (27 + 4 * 2) = M 12 35 := rfl
  have i16 := I.2.2.2.1
  have fb : flt (M 14) (M 11 4) = -6 ∨ (0 ≤ flt (M 14) (M 11 4) ∧ flt (M 14) (M 11 4) ≤ 60) := by
    unfold flt
    have b1 := fun (h : 1 < M 11 4) => rdp_bd (c := M 14) (n := M 11 4) 6 2 97 0 (by omega)
    have b2 := fun (h : (r1 (M 14) (M 11 4)).2.1 < M 11 4) => rdp_bd (c := M 14) (n := M 11 4) 6 ((r1 (M 14) (M 11 4)).2.1 + 1) 97 0 (by omega)
    have b3 := fun (h : (r2 (M 14) (M 11 4)).2.1 < M 11 4) => rdp_bd (c := M 14) (n := M 11 4) 6 ((r2 (M 14) (M 11 4)).2.1 + 1) 97 0 (by omega)
    rw [r1_eq] at b1
    rw [r2_eq] at b2
    rw [r3_eq] at b3
    split
    · omega
    · split
      · omega
      · rename_i h2
        have h2 := Classical.not_not.mp h2
        have b1 := b1 h2.1
        split
        · omega
        · split
          · omega
          · rename_i h4
            have h4 := Classical.not_not.mp h4
            have b2 := b2 h4.1
            split
            · omega
            · split
              · rename_i h6
                have b3 := b3 h6.1
                split
                · omega
                · split <;> omega
              · split <;> omega
  by_cases hf : flt (M 14) (M 11 4) = -6
  · by_cases hq : M 12 27 + M 12 31 + M 12 35 = 16 ∨ M 12 7 = 64
    · refine R_aload_n (q := 1) (i := 0) rfl rfl rfl rfl ?_
      refine R_cV0I (q := 4) (ci := 7) (C := C_X7_fault) rfl rfl rfl rfl rfl ⟨_, rfl, ⟨rfl, pd⟩⟩ rfl rfl (by omega) (fun x M' hc => ?_)
      replace hc := hc _ rfl
      obtain ⟨rfl, S1⟩ := hc
      have t4 := S1.1 4 (by omega) (by omega)
      have e12 := S1.2 12 (by decide)
      refine R_bipush (q := 6) rfl rfl (by decide) ?_
      refine R_icmp_eq (q := 9) (tgt := 12) rfl rfl (by decide) (by omega) (by omega) (fun h6 => ?_) (fun h6 => ?_)
      · refine R_aload_n (q := 13) (i := 0) rfl rfl rfl rfl ?_
        refine R_cV0I (q := 16) (ci := 7) (C := C_X7_waiting) rfl rfl rfl rfl rfl ⟨_, rfl, rfl⟩ rfl rfl (by omega) (fun x M' hc => ?_)
        replace hc := hc _ rfl
        rw [e12] at hc
        obtain ⟨rfl, rfl⟩ := hc
        refine R_bipush (q := 18) rfl rfl (by decide) ?_
        refine R_icmp_eq (q := 21) (tgt := 33) rfl rfl (by decide) (by omega) (by omega) (fun h18 => ?_) (fun h18 => ?_)
        · refine R_bipush (q := 35) rfl rfl (by decide) ?_
          refine R_ret rfl (Or.inl rfl) ?_
          exact Or.inr (Or.inl ⟨hf, hq, rfl, S1⟩)
        · refine R_aload_n (q := 22) (i := 0) rfl rfl rfl rfl ?_
          refine R_getR (q := 25) rfl rfl rfl rfl rfl (by omega) ?_
          refine R_bipush (q := 27) rfl rfl (by decide) ?_
          refine R_iald (q := 28) (v := M 12 7) rfl rfl rfl (by omega) (by omega) (by rw [e12]) ?_
          refine R_bipush (q := 30) rfl rfl (by decide) ?_
          refine R_icmp_ne (q := 33) (tgt := 36) rfl rfl (by decide) (by omega) (by omega) (fun h30 => ?_) (fun h30 => ?_)
          · omega
          · refine R_bipush (q := 35) rfl rfl (by decide) ?_
            refine R_ret rfl (Or.inl rfl) ?_
            exact Or.inr (Or.inl ⟨hf, hq, rfl, S1⟩)
      · exact absurd hf h6
    · obtain ⟨q1, q2, q3, q4, q5, q6⟩ := flt_ok hf
      have b1 := rdp_bd (c := M 14) (n := M 11 4) 6 2 97 0 (by omega)
      have b2 := rdp_bd (c := M 14) (n := M 11 4) 6 ((r1 (M 14) (M 11 4)).2.1 + 1) 97 0 (by omega)
      rw [r1_eq] at b1
      rw [r2_eq] at b2
      have hlt : M 12 7 < 64 := by omega
      sorry
  · refine R_aload_n (q := 1) (i := 0) rfl rfl rfl rfl ?_
    refine R_cV0I (q := 4) (ci := 7) (C := C_X7_fault) rfl rfl rfl rfl rfl ⟨_, rfl, ⟨rfl, pd⟩⟩ rfl rfl (by omega) (fun x M' hc => ?_)
    replace hc := hc _ rfl
    obtain ⟨rfl, S1⟩ := hc
    refine R_bipush (q := 6) rfl rfl (by decide) ?_
    refine R_icmp_eq (q := 9) (tgt := 12) rfl rfl (by decide) (by omega) (by omega) (fun h6 => ?_) (fun h6 => ?_)
    · exact absurd h6 hf
    · refine R_bipush (q := 11) rfl rfl (by decide) ?_
      refine R_ret rfl (Or.inl rfl) ?_
      exact Or.inl ⟨hf, rfl, S1⟩
set_option maxRecDepth 100000 in
theorem mt_X7_read : MtOK yX7_read cX7_read 4 (some .int) 4 C_X7_read := by
  refine mt_of sx_X7_read (by decide +kernel) (Or.inl ⟨rfl, rfl, rfl⟩) (by decide +kernel) fdX7_ok kLX7_ok kIX7_ok sgX7_ok ntX7_ok
    (all_cons (clokV mt_X7_fault rfl (GT_at 633 (by decide +kernel) (by decide +kernel)) (GT_at 44 (by decide +kernel) (by decide +kernel)) (GT_at 636 (by decide +kernel) (by decide +kernel)) (by decide +kernel) (by decide) (GT_at 634 (by decide +kernel) (by decide +kernel)) (GT_at 635 (by decide +kernel) (by decide +kernel)) rfl rfl) (all_cons (clokV mt_X7_waiting rfl (GT_at 655 (by decide +kernel) (by decide +kernel)) (GT_at 44 (by decide +kernel) (by decide +kernel)) (GT_at 658 (by decide +kernel) (by decide +kernel)) (by decide +kernel) (by decide) (GT_at 657 (by decide +kernel) (by decide +kernel)) (GT_at 16 (by decide +kernel) (by decide +kernel)) rfl rfl) (all_cons (clokV mt_X7_changes rfl (GT_at 600 (by decide +kernel) (by decide +kernel)) (GT_at 44 (by decide +kernel) (by decide +kernel)) (GT_at 603 (by decide +kernel) (by decide +kernel)) (by decide +kernel) (by decide) (GT_at 602 (by decide +kernel) (by decide +kernel)) (GT_at 11 (by decide +kernel) (by decide +kernel)) rfl rfl) (all_cons (clokS mt_X7_trunkAt (GT_at 659 (by decide +kernel) (by decide +kernel)) (GT_at 44 (by decide +kernel) (by decide +kernel)) (GT_at 661 (by decide +kernel) (by decide +kernel)) (by decide +kernel) (by decide) (GT_at 660 (by decide +kernel) (by decide +kernel))) (all_cons (clokV mt_X7_readsPaper rfl (GT_at 648 (by decide +kernel) (by decide +kernel)) (GT_at 44 (by decide +kernel) (by decide +kernel)) (GT_at 651 (by decide +kernel) (by decide +kernel)) (by decide +kernel) (by decide) (GT_at 650 (by decide +kernel) (by decide +kernel)) (GT_at 15 (by decide +kernel) (by decide +kernel)) rfl rfl) (all_cons (clokV mt_X7_joins rfl (GT_at 662 (by decide +kernel) (by decide +kernel)) (GT_at 44 (by decide +kernel) (by decide +kernel)) (GT_at 665 (by decide +kernel) (by decide +kernel)) (by decide +kernel) (by decide) (GT_at 664 (by decide +kernel) (by decide +kernel)) (GT_at 17 (by decide +kernel) (by decide +kernel)) rfl rfl) (all_nil))))))) ?_ ?_
  · rintro as M - ⟨o, rfl, hp⟩
    exact Nat.le_of_ble_eq_true rfl
  · rintro L scr as M - ⟨o, rfl, hp⟩
    exact Runs.mono (fun x M' h _ e => by cases e; exact h) (ok_X7_read L scr o M hp)
