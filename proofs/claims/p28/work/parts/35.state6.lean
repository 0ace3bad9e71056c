abbrev C_X4_actAtTop : Ct := (1, false, fun as M => ∃ (a : Nat), as = [wR a] ∧ (SI M a), fun as M x M' => ∀ (a : Nat), as = [wR a] → (RelS M' a (hnD (M 200) 2) ∧ FrS M M' a))
def sx_X4_actAtTop : Sx := (tb_X4_actAtTop, fdX4, kLX4, kIX4, sgX4, ntX4, [(75, (4, C_X4_doubtOf)), (116, (4, C_X4_letPass)), (120, (4, C_X4_fine))], 0)
set_option maxRecDepth 100000 in
set_option maxHeartbeats 1000000 in
theorem ok_X4_actAtTop (L : Nat) (scr : Int → Int) (a : Nat) (M : Mem) (hp : SI M a) : Runs sx_X4_actAtTop L (xcF scr) (fun x M' => RelS M' a (hnD (M 200) 2) ∧ FrS M M' a) 0 [wR a, none, none, none, none] [] M := by
  obtain ⟨hst, hr, I⟩ := hp
  have hb := id hst
  unfold isSt at hb
  have hd : (0 : Int) ≤ 2 ∧ (2 : Int) < 3 := by omega
  have hh := I.2.2.1 2 hd.1 hd.2
  have g9 := (gone_bd I).2
  have L1 : ∀ (n : Nat) (k : Int) (N : Mem) (g : Int → Int) (u : PV), RelS N a g → Inv g → FrS M N a → 0 ≤ k → k + n = g (26 + 4 * 2) → hnd 2 (M 200 9) n g = hnD (M 200) 2 →
      Runs sx_X4_actAtTop L (xcF scr) (fun _ M' => RelS M' a (hnD (M 200) 2) ∧ FrS M M' a) 11 [wR a, wR (a + 5 + 2 * (2 : Int).toNat), wI (g 9 - M 200 9), wI k, u] [] N := by
    intro n
    induction n with
    | zero =>
      intro k N g u r1 I1 f1 k0 hk hR
      have e2 := r1.hc hd
      have c1 := I1.2.2.1 2 hd.1 hd.2
      refine R_iload_n (q := 12) (i := 3) rfl rfl rfl rfl ?_
      refine R_aload_n (q := 13) (i := 1) rfl rfl rfl rfl ?_
      refine R_getI (q := 16) (k1 := 2) rfl rfl rfl (lay_dk (dkI hst hd)) rfl (by omega) rfl ?_
      refine R_icmp_ge (q := 19) (tgt := 101) rfl rfl (by decide) (by omega) (by omega) (fun h16 => ?_) (fun h16 => ?_)
      · refine R_vret rfl rfl ?_
        exact ⟨by rw [← hR]; exact r1, f1⟩
      · omega
    | succ n ih =>
      intro k N g u r1 I1 f1 k0 hk hR
      have e2 := r1.hc hd
      have e1 := r1.wa hd
      have c1 := I1.2.2.1 2 hd.1 hd.2
      have le := I1.le hd.1 hd.2
      by_cases hw : g (27 + 4 * 2) ≤ 0
      · rw [hnd_z hw] at hR
        refine R_iload_n (q := 12) (i := 3) rfl rfl rfl rfl ?_
        refine R_aload_n (q := 13) (i := 1) rfl rfl rfl rfl ?_
        refine R_getI (q := 16) (k1 := 2) rfl rfl rfl (lay_dk (dkI hst hd)) rfl (by omega) rfl ?_
        refine R_icmp_ge (q := 19) (tgt := 101) rfl rfl (by decide) (by omega) (by omega) (fun h16 => ?_) (fun h16 => ?_)
        · omega
        · refine R_aload_n (q := 20) (i := 1) rfl rfl rfl rfl ?_
          refine R_getI (q := 23) (k1 := 1) rfl rfl rfl (lay_dk (dkI hst hd)) rfl (by omega) rfl ?_
          refine R_if_le (q := 26) (tgt := 101) rfl rfl (by decide) (by omega) (fun h23 => ?_) (fun h23 => ?_)
          · refine R_vret rfl rfl ?_
            exact ⟨by rw [← hR]; exact r1, f1⟩
          · omega
      · obtain ⟨iB, -, q1, q2, -⟩ := lk_pre hd (by omega) I1 g9
        have o9 := (gone_bd I1).2
        obtain ⟨t, ht⟩ : ∃ t, g (38 + 16 * 2) = t := ⟨_, rfl⟩
        have qq := I1.2.2.2.2.1 2 0 ⟨hd.1, hd.2, by omega, by omega⟩
        rw [Int.add_zero, ht] at qq
        rw [ht] at q1
        have i7 := I1.i7
        have hq := QF.of I1 hd (by omega)
        have db := dbt_bd iB q1
        have d0 := dbt_0 iB q1
        have r2 := r1.lkd hd
        have f2 : FrS M (upM N (a + 5 + 2 * (2 : Int).toNat) 3 (N (a + 5 + 2 * (2 : Int).toNat) 3 + 1)) a := f1.up (by omega) (by omega)
        have l7 : lkd g 2 7 = g 7 := lkd_o (by omega)
        have hq2 : QF (lkd g 2) 2 := hq.cg hd (lkd_o (by omega)) (fun j _ _ => lkd_o (by omega))
        have hl38 : lkd g 2 (38 + 16 * 2) = t := (lkd_o (by omega)).trans ht
        have I2 := lkd_Inv hd I1
        obtain ⟨cc, -⟩ := iB.2.2.2 t q1.1 q1.2
        have el : dbt (lkd g 2) t = dbt g t := dbt_lkd hd q1.1 cc
        have s5 := iB.1.2.2.2.2.2
        have es5 : upM N (a + 5 + 2 * (2 : Int).toNat) 3 (N (a + 5 + 2 * (2 : Int).toNat) 3 + 1) (a + 1) 5 = g 5 := (r2.st (by omega)).trans (lkd_o (by omega))
        have hcn : ∀ {g' : Int → Int}, g' = lkg g 2 → g' (26 + 4 * 2) = g (26 + 4 * 2) := fun h => by rw [h]; exact lkg_k hd (by omega) I1 (Or.inl (by unfold Kp; omega))
        have o9r : rmv (lkd g 2) 2 0 9 = g 9 := rl_o hd le.2 (by omega) (by omega) (by omega)
        refine R_iload_n (q := 12) (i := 3) rfl rfl rfl rfl ?_
        refine R_aload_n (q := 13) (i := 1) rfl rfl rfl rfl ?_
        refine R_getI (q := 16) (k1 := 2) rfl rfl rfl (lay_dk (dkI hst hd)) rfl (by omega) rfl ?_
        refine R_icmp_ge (q := 19) (tgt := 101) rfl rfl (by decide) (by omega) (by omega) (fun h16 => ?_) (fun h16 => ?_)
        · omega
        · refine R_aload_n (q := 20) (i := 1) rfl rfl rfl rfl ?_
          refine R_getI (q := 23) (k1 := 1) rfl rfl rfl (lay_dk (dkI hst hd)) rfl (by omega) rfl ?_
          refine R_if_le (q := 26) (tgt := 101) rfl rfl (by decide) (by omega) (fun h23 => ?_) (fun h23 => ?_)
          · omega
          · refine R_aload_n (q := 27) (i := 1) rfl rfl rfl rfl ?_
            refine R_getR (q := 30) rfl rfl rfl (lay_dk (dkI hst hd)) rfl (by omega) ?_
            refine R_iconst (q := 31) rfl rfl ?_
            refine R_iald (q := 32) (v := t) rfl rfl (lay_dq (dkI hst hd)) (by omega) (by omega) ((r1.qu hd (by omega)).trans (by rw [Int.add_zero]; exact ht)) ?_
            refine R_istore (q := 34) rfl rfl rfl ?_
            refine R_aload_n (q := 35) (i := 1) rfl rfl rfl rfl ?_
            refine R_dup (q := 36) rfl rfl rfl ?_
            refine R_getI (q := 39) (k1 := 3) rfl rfl rfl (lay_dk (dkI hst hd)) rfl (by omega) rfl ?_
            refine R_iconst (q := 40) rfl rfl ?_
            refine R_iadd (q := 41) rfl rfl ?_
            refine R_putI (q := 44) (k1 := 3) rfl rfl rfl (lay_dk (dkI hst hd)) rfl (by omega) rfl rfl rfl rfl ?_
            generalize upM N (a + 5 + 2 * (2 : Int).toNat) 3 (N (a + 5 + 2 * (2 : Int).toNat) 3 + 1) = N2 at r2 f2 es5 ⊢
            refine R_aload_n (q := 45) (i := 0) rfl rfl rfl rfl ?_
            refine R_iload (q := 47) rfl rfl rfl ?_
            refine R_gh (lkd g 2) ?_
            refine R_cV1I (q := 50) (ci := 4) (C := C_X4_doubtOf) rfl rfl rfl rfl rfl ⟨_, _, rfl, ⟨⟨hst, r2.gh hst, I2⟩, qq.1, show t < lkd g 2 7 by omega⟩⟩ rfl (lay0 hst) (by omega) (fun x M' hc => ?_)
            replace hc := hc _ _ rfl
            obtain ⟨hc, rfl⟩ := hc
            simp only [gho_g, el] at hc
            subst hc
            refine R_un ?_
            refine R_if_ne (q := 53) (tgt := 64) rfl rfl (by decide) (by omega) (fun h50 => ?_) (fun h50 => ?_)
            · refine R_iload_n (q := 65) (i := 2) rfl rfl rfl rfl ?_
              refine R_aload_n (q := 66) (i := 0) rfl rfl rfl rfl ?_
              refine R_getR (q := 69) rfl rfl rfl (lay0 hst) rfl (by omega) ?_
              refine R_iconst (q := 70) rfl rfl ?_
              refine R_iald (q := 71) (v := g 5) rfl rfl (layi hst rfl) (by omega) (by omega) es5 ?_
              refine R_icmp_ge (q := 74) (tgt := 94) rfl rfl (by decide) (by omega) (by omega) (fun h71 => ?_) (fun h71 => ?_)
              · have hS : lkS g 2 (M 200 9) := ⟨by rw [ht]; exact fun z => by have := d0.mpr z; omega, rfl, by omega⟩
                rw [hnd_s hw hS] at hR
                refine R_vret rfl rfl ?_
                exact ⟨by rw [← hR]; exact r2, f2⟩
              · refine R_aload_n (q := 75) (i := 0) rfl rfl rfl rfl ?_
                refine R_iload (q := 77) rfl rfl rfl ?_
                refine R_gh (lkd g 2) ?_
                refine R_cV1N (q := 80) (ci := 4) (C := C_X4_fine) rfl rfl rfl rfl rfl ⟨_, _, rfl, ⟨hst, r2.gh hst, ⟨qq.1, show t < lkd g 2 7 by omega⟩, show lkd g 2 7 ≤ 64 by omega, I2.1⟩⟩ rfl (lay0 hst) (by omega) (fun M' hc => ?_)
                replace hc := hc _ _ rfl
                obtain ⟨r3, f3⟩ := hc
                simp only [gho_g] at r3
                have f3 := f2.tr f3.gh
                generalize M' = N3 at r3 f3 ⊢
                have fo : ∀ j, (j = 27 + 4 * 2 ∨ 38 ≤ j ∧ j < 86) → fnd (lkd g 2) t j = lkd g 2 j := fun j hj => by
                  unfold fnd
                  rw [us_n (by omega), us_n (by omega), us_n (by omega)]
                have hqF : QF (fnd (lkd g 2) t) 2 := hq2.cg hd (fo _ (Or.inl rfl)) (fun j h1 h2 => fo j (Or.inr ⟨h1, h2⟩))
                have hf38 : fnd (lkd g 2) t (38 + 16 * 2) = t := (fo _ (by omega)).trans hl38
                refine R_aload_n (q := 81) (i := 0) rfl rfl rfl rfl ?_
                refine R_iload (q := 83) rfl rfl rfl ?_
                refine R_aload_n (q := 84) (i := 1) rfl rfl rfl rfl ?_
                refine R_iconst (q := 85) rfl rfl ?_
                refine R_gh (fnd (lkd g 2) t) ?_
                refine R_cV3N (q := 88) (ci := 4) (C := C_X4_letPass) rfl rfl rfl rfl rfl ⟨_, _, _, _, rfl, ⟨hst, r3.gh hst, q1, 2, hd, rfl, hqF, hf38.symm⟩⟩ rfl (lay0 hst) (by omega) (fun M' hc => ?_)
                replace hc := hc _ _ _ _ rfl
                obtain ⟨r4, f4⟩ := hc 2 hd rfl
                simp only [gho_g] at r4
                rw [rmv_fnd hd (by rw [lkd_o (by omega)]; exact le.2) qq.1] at r4
                have hS : ¬ lkS g 2 (M 200 9) := fun z => by have := z.2.2; omega
                rw [hnd_g hw hS] at hR
                have eZ := lkg_3 ht (fun z => by have := d0.mpr z; omega)
                have rZ : RelS M' a (lkg g 2) := by
                  rw [eZ]
                  exact r4.cg (fun i hi => opn_fnd (by obtain ⟨_, _, h8, h9, _, h14⟩ := hi.1; omega))
                have fZ : FrS M M' a := f3.tr f4.gh
                have z9 : g 9 - M 200 9 + 1 = lkg g 2 9 - M 200 9 := by
                  have : opn (rmv (lkd g 2) 2 0) t 9 = rmv (lkd g 2) 2 0 9 + 1 := by
                    unfold opn
                    rw [(pss_8 q1.1 hd (Or.inr rfl)).2, us_n (by omega), us_n (by omega), us_n (by omega), us_n (by omega), bt_t rfl]
                  rw [eZ, this, o9r]
                  omega
                refine R_iinc (q := 91) rfl rfl rfl rfl ?_
                refine R_goto (q := 94) (tgt := 95) rfl rfl (by decide) ?_
                refine R_iinc (q := 98) rfl rfl rfl rfl ?_
                refine R_goto (q := 101) (tgt := 11) rfl rfl (by decide) ?_
                rw [z9]
                exact ih (k + 1) _ _ _ rZ (lkg_Inv (o := M 200 9) hd (by omega) I1 hS) fZ (by omega) (by have := hcn rfl; omega) hR
            · refine R_aload_n (q := 54) (i := 0) rfl rfl rfl rfl ?_
              refine R_iload (q := 56) rfl rfl rfl ?_
              refine R_aload_n (q := 57) (i := 1) rfl rfl rfl rfl ?_
              refine R_iconst (q := 58) rfl rfl ?_
              refine R_gh (lkd g 2) ?_
              refine R_cV3N (q := 61) (ci := 4) (C := C_X4_letPass) rfl rfl rfl rfl rfl ⟨_, _, _, _, rfl, ⟨hst, r2.gh hst, q1, 2, hd, rfl, hq2, hl38.symm⟩⟩ rfl (lay0 hst) (by omega) (fun M' hc => ?_)
              replace hc := hc _ _ _ _ rfl
              obtain ⟨r3, f3⟩ := hc 2 hd rfl
              simp only [gho_g] at r3
              have hS : ¬ lkS g 2 (M 200 9) := fun z => z.1 (by rw [ht]; exact d0.mp (by omega))
              rw [hnd_g hw hS] at hR
              have eZ := lkg_1 ht (d0.mp (by omega))
              have rZ : RelS M' a (lkg g 2) := by rw [eZ]; exact r3
              have fZ : FrS M M' a := f2.tr f3.gh
              have z9 : g 9 - M 200 9 = lkg g 2 9 - M 200 9 := by
                rw [eZ, (pss_8 q1.1 hd (Or.inl rfl)).2, o9r, bt_f (by omega), Int.add_zero]
              refine R_goto (q := 64) (tgt := 95) rfl rfl (by decide) ?_
              refine R_iinc (q := 98) rfl rfl rfl rfl ?_
              refine R_goto (q := 101) (tgt := 11) rfl rfl (by decide) ?_
              rw [z9]
              exact ih (k + 1) _ _ _ rZ (lkg_Inv (o := M 200 9) hd (by omega) I1 hS) fZ (by omega) (by have := hcn rfl; omega) hR
  refine R_aload_n (q := 1) (i := 0) rfl rfl rfl rfl ?_
  refine R_getR (q := 4) rfl rfl rfl (lay0 hst) rfl (by omega) ?_
  refine R_iconst (q := 5) rfl rfl ?_
  refine R_aald (q := 6) (r2 := a + 5 + 2 * (2 : Int).toNat) rfl rfl (layi hst rfl) (by omega) (by omega) rfl ?_
  refine R_astore_n (q := 7) (i := 1) rfl rfl rfl rfl ?_
  refine R_iconst (q := 8) rfl rfl ?_
  refine R_istore_n (q := 9) (i := 2) rfl rfl rfl rfl ?_
  refine R_iconst (q := 10) rfl rfl ?_
  refine R_istore_n (q := 11) (i := 3) rfl rfl rfl rfl ?_
  rw [show (0 : Int) = M 200 9 - M 200 9 by omega]
  exact L1 (M 200 (26 + 4 * 2)).toNat _ M (M 200) _ hr I FrS.rf (by omega) (by omega) rfl
set_option maxRecDepth 100000 in
theorem mt_X4_actAtTop : MtOK yX4_actAtTop cX4_actAtTop 5 none 3 C_X4_actAtTop := by
  refine mt_of sx_X4_actAtTop (by decide +kernel) (Or.inr (Or.inr ⟨rfl, rfl, rfl⟩)) (by decide +kernel) fdX4_ok kLX4_ok kIX4_ok sgX4_ok ntX4_ok
    (all_cons (clokV mt_X4_doubtOf rfl (GT_at 417 (by decide +kernel) (by decide +kernel)) (GT_at 12 (by decide +kernel) (by decide +kernel)) (GT_at 372 (by decide +kernel) (by decide +kernel)) (by decide +kernel) (by decide) (GT_at 370 (by decide +kernel) (by decide +kernel)) (GT_at 371 (by decide +kernel) (by decide +kernel)) rfl rfl) (all_cons (clokV mt_X4_letPass rfl (GT_at 418 (by decide +kernel) (by decide +kernel)) (GT_at 12 (by decide +kernel) (by decide +kernel)) (GT_at 421 (by decide +kernel) (by decide +kernel)) (by decide +kernel) (by decide) (GT_at 420 (by decide +kernel) (by decide +kernel)) (GT_at 4 (by decide +kernel) (by decide +kernel)) rfl rfl) (all_cons (clokV mt_X4_fine rfl (GT_at 423 (by decide +kernel) (by decide +kernel)) (GT_at 12 (by decide +kernel) (by decide +kernel)) (GT_at 426 (by decide +kernel) (by decide +kernel)) (by decide +kernel) (by decide) (GT_at 425 (by decide +kernel) (by decide +kernel)) (GT_at 5 (by decide +kernel) (by decide +kernel)) rfl rfl) (all_nil)))) ?_ ?_
  · rintro as M - ⟨a, rfl, hp⟩
    exact Nat.le_of_ble_eq_true rfl
  · rintro L scr as M - ⟨a, rfl, hp⟩
    exact Runs.mono (fun x M' h _ e => by cases e; exact h) (ok_X4_actAtTop L scr a M hp)
