theorem flt_bd {c : Int → Int} {n : Int} (hn : n ≤ 60) : flt c n = -6 ∨ (0 ≤ flt c n ∧ flt c n ≤ 60) := by
  unfold flt
  have b1 := fun (h : 1 < n) => rdp_bd (c := c) (n := n) 6 2 97 0 (by omega)
  have b2 := fun (h : (r1 c n).2.1 < n) => rdp_bd (c := c) (n := n) 6 ((r1 c n).2.1 + 1) 97 0 (by omega)
  have b3 := fun (h : (r2 c n).2.1 < n) => rdp_bd (c := c) (n := n) 6 ((r2 c n).2.1 + 1) 97 0 (by omega)
  rw [r1_eq] at b1
  rw [r2_eq] at b2
  rw [r3_eq] at b3
  split
  · omega
  · split
    · omega
    · rename_i h2
      have h2 := Classical.not_not.mp h2
      have b1 := b1 h2.1
      split
      · omega
      · split
        · omega
        · rename_i h4
          have h4 := Classical.not_not.mp h4
          have b2 := b2 h4.1
          split
          · omega
          · split
            · rename_i h6
              have b3 := b3 h6.1
              split
              · omega
              · split <;> omega
            · split <;> omega
theorem r1_pz (c : Int → Int) (n : Int) : 0 ≤ (r1 c n).2.2 ∧ (r1 c n).2.2 < 1000000 := by
  rw [← r1_eq]
  exact rdp_pz 6 2 97 0 (by omega) Pz_0
theorem r2_pz (c : Int → Int) (n : Int) : 0 ≤ (r2 c n).2.2 ∧ (r2 c n).2.2 < 1000000 := by
  rw [← r2_eq]
  exact rdp_pz 6 _ 97 0 (by omega) Pz_0
theorem r3_pz (c : Int → Int) (n : Int) : 0 ≤ (r3 c n).2.2 ∧ (r3 c n).2.2 < 1000000 := by
  rw [← r3_eq]
  exact rdp_pz 6 _ 97 0 (by omega) Pz_0
theorem pTr_pz (c : Int → Int) (n : Int) : 0 ≤ pTr c n ∧ pTr c n < 1000000 := by
  unfold pTr
  split
  · exact r3_pz c n
  · exact r1_pz c n
abbrev C_X6_read : Ct := (1, true, fun as M => ∃ (o : Nat), as = [wR o] ∧ (o = 3 ∧ GI M), fun as M x M' => ∀ (o : Nat), as = [wR o] → (Bo C_X7_read [wR 11] M M' x))
def sx_X6_read : Sx := (tb_X6_read, fdX6, kLX6, kIX6, sgX6, ntX6, [(75, (2, C_X2_findFault)), (79, (4, C_X4_waitingTrunks)), (52, (1, C_X1_keep)), (97, (4, C_X4_admit))], 1)
set_option maxRecDepth 100000 in
set_option maxHeartbeats 1000000 in
theorem ok_X6_read (L : Nat) (scr : Int → Int) (o : Nat) (M : Mem) (hp : o = 3 ∧ GI M) : Runs sx_X6_read L (xcF scr) (fun x M' => Bo C_X7_read [wR 11] M M' x) 0 [wR o, none] [] M := by
  obtain ⟨rfl, g⟩ := hp
  have I := g.2.1.1
  have i7 := g.i7
  have fb := flt_bd (c := M 14) (n := M 11 4) (by have := g.2.2.2.2.2.1; omega)
  have le0 := I.le (d := 0) (by omega) (by omega)
  have le1 := I.le (d := 1) (by omega) (by omega)
  have le2 := I.le (d := 2) (by omega) (by omega)
  have m0 : M 12 (27 + 4 * 0) = M 12 27 := rfl
  have m1 : M 12 (27 + 4 * 1) = M 12 31 := rfl
  have m2 : M 12 (27 + 4 * 2) = M 12 35 := rfl
  have i16 := I.2.2.2.1
  refine R_aload_n (q := 1) (i := 0) rfl rfl rfl rfl ?_
  refine R_getR (q := 4) rfl rfl rfl rfl rfl (by omega) ?_
  refine R_cV0I (q := 7) (ci := 2) (C := C_X2_findFault) rfl rfl rfl rfl rfl ⟨_, rfl, ⟨rfl, g.pd⟩⟩ rfl rfl (by omega) (fun x M' hc => ?_)
  replace hc := hc _ rfl
  obtain ⟨hx, sk, fd⟩ := hc
  have hx2 := hx
  rw [g.fl] at hx
  generalize M' = Ma at sk fd ⊢
  have sm := SmC.k sk
  have g2 : GI Ma := G_sm g sm SmR.rf
  have e11 : Ma 11 = M 11 := sm.r 11 (by omega) (by omega)
  have e12 : Ma 12 = M 12 := sm.r 12 (by omega) (by omega)
  have e14 : Ma 14 = M 14 := sm.r 14 (by omega) (by omega)
  have r0 : RelS Ma 15 (M 12) := by
    rw [← e12]
    exact g2.1.1
  have ew : Ma (15 + 5) 1 + Ma (15 + 7) 1 + Ma (15 + 9) 1 = M 12 27 + M 12 31 + M 12 35 := congr (congrArg HAdd.hAdd (congr (congrArg HAdd.hAdd (r0.wa (d := 0) (by omega))) (r0.wa (d := 1) (by omega)))) (r0.wa (d := 2) (by omega))
  have e7 : Ma (15 + 11) 0 = M 12 7 := r0.ca
  have sz := g2.sz
  have cm := g2.cm
  refine R_bipush (q := 9) rfl rfl (by decide) ?_
  refine R_icmp_eq (q := 12) (tgt := 15) rfl rfl (by decide) (by omega) (by omega) (fun h9 => ?_) (fun h9 => ?_)
  · refine R_aload_n (q := 16) (i := 0) rfl rfl rfl rfl ?_
    refine R_getR (q := 19) rfl rfl rfl rfl rfl (by omega) ?_
    refine R_cV0I (q := 22) (ci := 4) (C := C_X4_waitingTrunks) rfl rfl rfl rfl rfl ⟨_, rfl, st15⟩ rfl (lay0 st15) (by omega) (fun x M' hc => ?_)
    replace hc := hc _ rfl
    obtain ⟨hc, rfl⟩ := hc
    rw [ew] at hc
    subst hc
    refine R_bipush (q := 24) rfl rfl (by decide) ?_
    refine R_icmp_ge (q := 27) (tgt := 42) rfl rfl (by decide) (by omega) (by omega) (fun h24 => ?_) (fun h24 => ?_)
    · refine R_bipush (q := 44) rfl rfl (by decide) ?_
      refine R_ret rfl (Or.inl rfl) ?_
      refine Bo_sm g sm (fun y N q => ?_)
      have q := q 11 rfl
      rw [e14, e11, e12] at q
      rcases q with ⟨z, _⟩ | ⟨_, _, z, s⟩ | ⟨_, z, _⟩
      · omega
      · exact ⟨z.symm, SmR.s s⟩
      · omega
    · refine R_aload_n (q := 28) (i := 0) rfl rfl rfl rfl ?_
      refine R_getR (q := 31) rfl rfl rfl rfl rfl (by omega) ?_
      refine R_getR (q := 34) rfl rfl rfl (lay0 st15) rfl (by omega) ?_
      refine R_getI (q := 37) (k1 := 0) rfl rfl rfl (lay_tk (tkI st15)) rfl (by omega) rfl ?_
      refine R_bipush (q := 39) rfl rfl (by decide) ?_
      rw [e7]
      refine R_icmp_lt (q := 42) (tgt := 45) rfl rfl (by decide) (by omega) (by omega) (fun h39 => ?_) (fun h39 => ?_)
      · refine R_aload_n (q := 46) (i := 0) rfl rfl rfl rfl ?_
        refine R_getR (q := 49) rfl rfl rfl rfl rfl (by omega) ?_
        refine R_aload_n (q := 50) (i := 0) rfl rfl rfl rfl ?_
        refine R_getR (q := 53) rfl rfl rfl rfl rfl (by omega) ?_
        refine R_cV1N (q := 56) (ci := 1) (C := C_X1_keep) rfl rfl rfl rfl rfl ⟨_, _, rfl, ⟨rfl, rfl, g2.1.2.1, sz, cm⟩⟩ rfl rfl (by omega) (fun M' hc => ?_)
        replace hc := hc _ _ rfl
        generalize M' = M1 at hc ⊢
        have hk : Kp4 Ma M1 := hc
        have s1 := hk.r0 (by omega) r0
        have f6 : flt (M 14) (M 11 4) = -6 := by omega
        have ok := flt_ok f6
        have fd := fd (by rw [hx2] at *; rw [g.fl]; exact f6)
        refine R_aload_n (q := 57) (i := 0) rfl rfl rfl rfl ?_
        refine R_getR (q := 60) rfl rfl rfl rfl rfl (by omega) ?_
        refine R_aload_n (q := 61) (i := 0) rfl rfl rfl rfl ?_
        refine R_getR (q := 64) rfl rfl rfl rfl rfl (by omega) ?_
        refine R_getI (q := 67) (k1 := 2) rfl rfl rfl rfl rfl (by omega) rfl ?_
        refine R_aload_n (q := 68) (i := 0) rfl rfl rfl rfl ?_
        refine R_getR (q := 71) rfl rfl rfl rfl rfl (by omega) ?_
        refine R_getR (q := 74) rfl rfl rfl rfl rfl (by omega) ?_
        refine R_gh (M 12) ?_
        refine R_cV2I (q := 77) (ci := 4) (C := C_X4_admit) rfl rfl rfl rfl rfl ⟨_, _, _, rfl, ⟨si_gh st15 s1 I, rfl, by rw [gho_g]; omega, by rw [gho_g]; omega⟩⟩ rfl (lay0 st15) (by omega) (fun x M' hc => ?_)
        replace hc := hc _ _ _ rfl
        obtain ⟨hy, f2, hA⟩ := hc
        rw [gho_g] at hy hA
        rw [gho_r M1 _ (show (10 : Nat) < 191 by decide), hk.lo (r := 10) (by omega) (by omega), fd.2.1, fd.2.2.1, fd.2.2.2] at hA
        have cs := g.cs
        rw [g.1.2.2.2.2.2.1, r1_cs cs, r2_cs cs, pTr_cs cs] at hA
        have s2 := hA _ _ _ rfl rfl rfl
        have f2 := f2.gh
        have ec : M1 8 2 = M 14 0 - 48 := by rw [hk.lo (by omega) (by omega), fd.1, cs 0 (by omega) ok.1.1]
        rw [ec] at s2
        generalize M' = M2 at s2 f2 ⊢
        refine R_istore_n (q := 78) (i := 1) rfl rfl rfl rfl ?_
        refine R_aload_n (q := 79) (i := 0) rfl rfl rfl rfl ?_
        refine R_getR (q := 82) rfl rfl rfl rfl rfl (by omega) ?_
        refine R_iconst (q := 83) rfl rfl ?_
        refine R_putI (q := 86) (k1 := 1) rfl rfl rfl rfl rfl (by omega) rfl rfl rfl rfl ?_
        refine R_iload_n (q := 87) (i := 1) rfl rfl rfl rfl ?_
        refine R_ret rfl (Or.inl rfl) ?_
        have k14 : ∀ r, (r ≤ 2 ∨ 11 ≤ r) → r ≤ 14 → upM M2 8 1 0 r = M r := fun r a b => by rw [upM_r (by omega), f2 r (by omega) (by omega), hk.lo (by omega) (by omega), sm.r r a b]
        refine ⟨k14, fun y N q => ?_⟩
        have q := q 11 rfl
        rw [k14 14 (by omega) (by omega), k14 11 (by omega) (by omega), k14 12 (by omega) (by omega)] at q
        rcases q with ⟨z, _⟩ | ⟨_, z, _⟩ | ⟨_, _, z, ⟨n, z1, z2⟩, z3, z4⟩
        · omega
        · omega
        · refine ⟨by rw [z, ← hy], ?_⟩
          have wm := z1.adm_ (c := M 14 0 - 48) (up := (r1 (M 14) (M 11 4)).2.2) (lo := (r2 (M 14) (M 11 4)).2.2) (tr := pTr (M 14) (M 11 4))
          have I2 : Inv (adm (M 12) (M 14 0 - 48) (r1 (M 14) (M 11 4)).2.2 (r2 (M 14) (M 11 4)).2.2 (pTr (M 14) (M 11 4))) := adm_Inv I (by omega) (by omega) (by omega) (r1_pz _ _) (r2_pz _ _) (pTr_pz _ _)
          have O2 : StO (adm (M 12) (M 14 0 - 48) (r1 (M 14) (M 11 4)).2.2 (r2 (M 14) (M 11 4)).2.2 (pTr (M 14) (M 11 4))) := ⟨I2, by
            rw [adm_v i7.1, if_neg (by omega), if_neg (by omega), adF_o (by omega) (by omega)]
            exact g.2.1.2⟩
          exact G_chg g2 hk (fun r a b c d => by rw [upM_r b, f2 r a d]) ((s2.off (fun r a b => upM_r (by omega))).mv (fun _ _ _ => rfl) wm) z2 z3 (O2.wn wm) (by rw [upM_s, z4]) (Or.inl z4)
      · refine R_bipush (q := 44) rfl rfl (by decide) ?_
        refine R_ret rfl (Or.inl rfl) ?_
        refine Bo_sm g sm (fun y N q => ?_)
        have q := q 11 rfl
        rw [e14, e11, e12] at q
        rcases q with ⟨z, _⟩ | ⟨_, _, z, s⟩ | ⟨_, z, _⟩
        · omega
        · exact ⟨z.symm, SmR.s s⟩
        · omega
  · refine R_bipush (q := 14) rfl rfl (by decide) ?_
    refine R_ret rfl (Or.inl rfl) ?_
    refine Bo_sm g sm (fun y N q => ?_)
    have q := q 11 rfl
    rw [e14, e11] at q
    rcases q with ⟨_, z, s⟩ | ⟨z, _⟩ | ⟨z, _⟩
    · exact ⟨z.symm, SmR.s s⟩
    · omega
    · omega
set_option maxRecDepth 100000 in
theorem mt_X6_read : MtOK yX6_read cX6_read 2 (some .int) 3 C_X6_read := by
  refine mt_of sx_X6_read (by decide +kernel) (Or.inl ⟨rfl, rfl, rfl⟩) (by decide +kernel) fdX6_ok kLX6_ok kIX6_ok sgX6_ok ntX6_ok
    (all_cons (clokV mt_X2_findFault rfl (GT_at 222 (by decide +kernel) (by decide +kernel)) (GT_at 16 (by decide +kernel) (by decide +kernel)) (GT_at 225 (by decide +kernel) (by decide +kernel)) (by decide +kernel) (by decide) (GT_at 223 (by decide +kernel) (by decide +kernel)) (GT_at 224 (by decide +kernel) (by decide +kernel)) rfl rfl) (all_cons (clokV mt_X4_waitingTrunks rfl (GT_at 241 (by decide +kernel) (by decide +kernel)) (GT_at 12 (by decide +kernel) (by decide +kernel)) (GT_at 244 (by decide +kernel) (by decide +kernel)) (by decide +kernel) (by decide) (GT_at 242 (by decide +kernel) (by decide +kernel)) (GT_at 243 (by decide +kernel) (by decide +kernel)) rfl rfl) (all_cons (clokV mt_X1_keep rfl (GT_at 245 (by decide +kernel) (by decide +kernel)) (GT_at 15 (by decide +kernel) (by decide +kernel)) (GT_at 248 (by decide +kernel) (by decide +kernel)) (by decide +kernel) (by decide) (GT_at 246 (by decide +kernel) (by decide +kernel)) (GT_at 247 (by decide +kernel) (by decide +kernel)) rfl rfl) (all_cons (clokV mt_X4_admit rfl (GT_at 266 (by decide +kernel) (by decide +kernel)) (GT_at 12 (by decide +kernel) (by decide +kernel)) (GT_at 269 (by decide +kernel) (by decide +kernel)) (by decide +kernel) (by decide) (GT_at 267 (by decide +kernel) (by decide +kernel)) (GT_at 268 (by decide +kernel) (by decide +kernel)) rfl rfl) (all_nil))))) ?_ ?_
  · rintro as M - ⟨o, rfl, hp⟩
    exact Nat.le_of_ble_eq_true rfl
  · rintro L scr as M - ⟨o, rfl, hp⟩
    exact Runs.mono (fun x M' h _ e => by cases e; exact h) (ok_X6_read L scr o M hp)
