theorem df_cg {f g : Int → Int} {t k : Int} (h1 : g (87 + 9 * t) = f (87 + 9 * t)) (h2 : g (88 + 9 * t) = f (88 + 9 * t)) : df g t k = df f t k := by
  unfold df
  rw [h1, h2]
theorem ds_cg {f g : Int → Int} {t k : Int} (h4 : g 4 = f 4) (h1 : g (87 + 9 * t) = f (87 + 9 * t)) (h2 : g (88 + 9 * t) = f (88 + 9 * t)) : ds g t k = ds f t k := by
  unfold ds
  rw [h4, df_cg h1 h2]
theorem msk_cg {f g : Int → Int} {t : Int} (h4 : g 4 = f 4) (h1 : g (87 + 9 * t) = f (87 + 9 * t)) (h2 : g (88 + 9 * t) = f (88 + 9 * t)) : msk g t = msk f t := by
  unfold msk
  simp only [ds_cg h4 h1 h2]
theorem dw_cg {f g : Int → Int} {t k : Int} (h4 : g 4 = f 4) (h1 : g (87 + 9 * t) = f (87 + 9 * t)) (h2 : g (88 + 9 * t) = f (88 + 9 * t)) (hw : g (15 + k) = f (15 + k)) : dw g t k = dw f t k := by
  unfold dw
  rw [ds_cg h4 h1 h2, df_cg h1 h2, hw]
theorem dbt_cg {f g : Int → Int} {t : Int} (h4 : g 4 = f 4) (h0 : g (86 + 9 * t) = f (86 + 9 * t)) (h1 : g (87 + 9 * t) = f (87 + 9 * t)) (h2 : g (88 + 9 * t) = f (88 + 9 * t)) (hw : ∀ k, 0 ≤ k → k < 6 → g (15 + k) = f (15 + k)) (htr : g (21 + f (86 + 9 * t)) = f (21 + f (86 + 9 * t))) : dbt g t = dbt f t := by
  unfold dbt
  rw [msk_cg h4 h1 h2, h0, htr, dw_cg h4 h1 h2 (hw 0 (by omega) (by omega)), dw_cg h4 h1 h2 (hw 1 (by omega) (by omega)), dw_cg h4 h1 h2 (hw 2 (by omega) (by omega)), dw_cg h4 h1 h2 (hw 3 (by omega) (by omega)), dw_cg h4 h1 h2 (hw 4 (by omega) (by omega)), dw_cg h4 h1 h2 (hw 5 (by omega) (by omega))]
theorem ms_cg {f g : Int → Int} {t k : Int} (h1 : g (87 + 9 * t) = f (87 + 9 * t)) (h2 : g (88 + 9 * t) = f (88 + 9 * t)) (h3 : g (89 + 9 * t) = f (89 + 9 * t)) : ms g t k = ms f t k := by
  unfold ms mo
  simp only [h1, h2, h3]
theorem fmk_cg {f g : Int → Int} {t : Int} (h1 : g (87 + 9 * t) = f (87 + 9 * t)) (h2 : g (88 + 9 * t) = f (88 + 9 * t)) (h3 : g (89 + 9 * t) = f (89 + 9 * t)) : fmk g t = fmk f t ∧ fnm g t = fnm f t := by
  unfold fmk fnm
  simp only [ms_cg h1 h2 h3, and_self]
theorem dbt_lkd {f : Int → Int} {d t : Int} (hd : 0 ≤ d ∧ d < 3) (ht : 0 ≤ t) (hc : 0 ≤ f (86 + 9 * t) ∧ f (86 + 9 * t) < 5) : dbt (lkd f d) t = dbt f t :=
  dbt_cg (lkd_o (by omega)) (lkd_o (by omega)) (lkd_o (by omega)) (lkd_o (by omega)) (fun k _ _ => lkd_o (by omega)) (lkd_o (by omega))
theorem dbt_0 {f : Int → Int} (hB : Bd f) {t : Int} (ht : 0 ≤ t ∧ t < 64) : dbt f t = 0 ↔ msk f t = 0 := by
  have b := dS_bd hB ht 6 (by omega)
  rw [mP_6] at b
  obtain ⟨c0, -⟩ := hB.2.2.2 t ht.1 ht.2
  have tb := hB.2.2.1 _ c0.1 c0.2
  rw [dS_6]
  constructor
  · intro z
    split at z
    · assumption
    · omega
  · intro z
    rw [if_pos z]
theorem lkg_1 {f : Int → Int} {d t : Int} (ht : f (38 + 16 * d) = t) (h : msk f t = 0) : lkg f d = pss (rmv (lkd f d) d 0) d t 1 := by
  subst ht
  unfold lkg
  rw [if_pos h]
theorem lkg_2 {f : Int → Int} {d t : Int} (ht : f (38 + 16 * d) = t) (h : ¬ msk f t = 0) (h2 : d ≠ 2 ∧ dbt f t ≤ f 0 * (d + 1)) : lkg f d = pss (tks (rmv (lkd f d) d 0) t (f 1) 11) d t 1 := by
  subst ht
  unfold lkg
  rw [if_neg h, if_pos h2]
theorem lkg_3 {f : Int → Int} {t : Int} (ht : f (38 + 16 * 2) = t) (h : ¬ msk f t = 0) : lkg f 2 = opn (rmv (lkd f 2) 2 0) t := by
  subst ht
  unfold lkg
  rw [if_neg h, if_neg (by omega), if_pos rfl]
theorem lkg_4 {f : Int → Int} {d t : Int} (ht : f (38 + 16 * d) = t) (h : ¬ msk f t = 0) (h2 : d ≠ 2) (h3 : ¬ dbt f t ≤ f 0 * (d + 1)) : lkg f d = us (jn (rmv (lkd f d) d 0) (d + 1) t) (94 + 9 * t) (f (94 + 9 * t) + 1) := by
  subst ht
  unfold lkg
  rw [if_neg h, if_neg (by omega), if_neg h2]
theorem rmv_tks {f : Int → Int} {d t c w : Int} (hd : 0 ≤ d ∧ d < 3) (hw : f (27 + 4 * d) ≤ 16) (ht : 0 ≤ t) (hw2 : 11 ≤ w ∧ w ≤ 13) : rmv (tks f t c w) d 0 = tks (rmv f d 0) t c w := by
  unfold tks
  rw [rmv_us hd (by omega) (by rw [us_n (by omega)]; exact hw) (by omega) (by omega), rmv_us hd (by omega) hw (by omega) (by omega), rmv_o hd (by omega) hw (by omega) (by omega), rmv_o hd (by omega) hw (by omega) (by omega)]
theorem rmv_fnd {f : Int → Int} {d t : Int} (hd : 0 ≤ d ∧ d < 3) (hw : f (27 + 4 * d) ≤ 16) (ht : 0 ≤ t) : rmv (fnd f t) d 0 = fnd (rmv f d 0) t := by
  have o : ∀ j, j ≠ 27 + 4 * d → j < 38 ∨ 86 ≤ j → rmv f d 0 j = f j := fun j h1 h2 => rmv_o hd (by omega) hw h1 h2
  obtain ⟨e1, e2⟩ := fmk_cg (f := f) (g := rmv f d 0) (t := t) (o _ (by omega) (by omega)) (o _ (by omega) (by omega)) (o _ (by omega) (by omega))
  unfold fnd
  rw [e1, e2, o _ (by omega) (by omega), o 2 (by omega) (by omega), o 12 (by omega) (by omega)]
  rw [rmv_us hd (by omega) (by rw [us_n (by omega), us_n (by omega)]; exact hw) (by omega) (by omega), rmv_us hd (by omega) (by rw [us_n (by omega)]; exact hw) (by omega) (by omega), rmv_us hd (by omega) hw (by omega) (by omega)]
theorem pss_14 {f : Int → Int} {d t w z i : Int} (hd : 0 ≤ d ∧ d < 3) (h : i ≠ 8 ∧ i ≠ 9 ∧ i ≠ 14) : pss (us f 14 z) d t w i = pss f d t w i := by
  unfold pss
  have k : i ≠ (if w = 1 then 8 else 9) := by split <;> omega
  rw [us_n k, us_n k, us_n (f := f) (i := 14) (j := 29 + 4 * d) (by omega)]
  by_cases h1 : i = 29 + 4 * d
  · rw [h1, us_s, us_s]
  · rw [us_n h1, us_n h1]
    by_cases h2 : i = 90 + 9 * t
    · rw [h2, us_s, us_s]
    · rw [us_n h2, us_n h2, us_n h.2.2]
theorem opn_fnd {f : Int → Int} {t i : Int} (h : i ≠ 8 ∧ i ≠ 9 ∧ i ≠ 14) : opn f t i = pss (fnd f t) 2 t 2 i := pss_14 (z := f 14 + bt_ (fmk f t = 0) 1) (f := fnd f t) (by omega) h
theorem QF.of {f : Int → Int} (I : Inv f) {d : Int} (hd : 0 ≤ d ∧ d < 3) (hn : 1 ≤ f (27 + 4 * d)) : QF f d := by
  have le := I.le hd.1 hd.2
  have i7 := I.i7
  refine ⟨⟨hn, le.2⟩, fun p p0 p1 => ?_⟩
  have := I.2.2.2.2.1 d p ⟨hd.1, hd.2, p0, p1⟩
  omega
theorem QF.cg {f g : Int → Int} {d : Int} (q : QF f d) (hd : 0 ≤ d ∧ d < 3) (h1 : g (27 + 4 * d) = f (27 + 4 * d)) (h : ∀ j, 38 ≤ j → j < 86 → g j = f j) : QF g d := by
  have q1 := q.1
  refine ⟨by rw [h1]; exact q1, fun p p0 p1 => ?_⟩
  rw [h1] at p1
  rw [h _ (by omega) (by omega)]
  exact q.2 p p0 p1
theorem RelS.lkd {M : Mem} {a : Nat} {f : Int → Int} (h : RelS M a f) {d : Int} (hd : 0 ≤ d ∧ d < 3) : RelS (upM M (a + 5 + 2 * d.toNat) 3 (M (a + 5 + 2 * d.toNat) 3 + 1)) a (lkd f d) := by
  rw [h.lk hd]
  exact h.up (28 + 4 * d) (by unfold Pv; omega) (by omega) (by rw [(clD hd).1.2.2.1, ← Nat.add_assoc]) (clD hd).2.2.2.1 (en_n (nP (by omega)))
theorem RelS.jn {M : Mem} {a : Nat} {f : Int → Int} (h : RelS M a f) {d t : Int} (hd : 0 ≤ d ∧ d < 3) (hw : 0 ≤ f (27 + 4 * d) ∧ f (27 + 4 * d) < 16) : RelS (upM (upM M (a + 5 + 2 * d.toNat + 1) (M (a + 5 + 2 * d.toNat) 1) t) (a + 5 + 2 * d.toNat) 1 (M (a + 5 + 2 * d.toNat) 1 + 1)) a (jn f d t) := by
  rw [h.wa hd]
  have r1 := h.up (38 + 16 * d + f (27 + 4 * d)) (x := t) (r := a + 5 + 2 * d.toNat + 1) (k := f (27 + 4 * d)) (by unfold Pv; omega) (by omega) (by rw [(clQ hd hw).1]; omega) (clQ hd hw).2 (en_n (nP (by omega)))
  exact r1.up (27 + 4 * d) (by unfold Pv; omega) (by omega) (by rw [(clD hd).1.2.1, ← Nat.add_assoc]) (clD hd).2.2.1 (en_n (nP (by omega)))
abbrev C_X4_actBelowTop : Ct := (2, false, fun as M => ∃ (a : Nat) (d : Int), as = [wR a, wI d] ∧ (SI M a ∧ 0 ≤ d ∧ d < 2), fun as M x M' => ∀ (a : Nat) (d : Int), as = [wR a, wI d] → (RelS M' a (hnD (M 200) d) ∧ FrS M M' a))
def sx_X4_actBelowTop : Sx := (tb_X4_actBelowTop, fdX4, kLX4, kIX4, sgX4, ntX4, [(75, (4, C_X4_doubtOf)), (116, (4, C_X4_letPass)), (123, (4, C_X4_takeFee)), (126, (0, C_X0_dismiss)), (90, (0, C_X0_append))], 0)
set_option maxRecDepth 100000 in
set_option maxHeartbeats 1000000 in
theorem ok_X4_actBelowTop (L : Nat) (scr : Int → Int) (a : Nat) (d : Int) (M : Mem) (hp : SI M a ∧ 0 ≤ d ∧ d < 2) : Runs sx_X4_actBelowTop L (xcF scr) (fun x M' => RelS M' a (hnD (M 200) d) ∧ FrS M M' a) 0 [wR a, wI d, none, none, none, none] [] M := by
  obtain ⟨⟨hst, hr, I⟩, hd2⟩ := hp
  have hb := id hst
  unfold isSt at hb
  have hd : 0 ≤ d ∧ d < 3 := by omega
  have hh := I.2.2.1 d hd.1 hd.2
  have g9 := (gone_bd I).2
  have L1 : ∀ (n : Nat) (k : Int) (N : Mem) (g : Int → Int) (u v : PV), RelS N a g → Inv g → FrS M N a → 0 ≤ k → k + n = g (26 + 4 * d) → hnd d (M 200 9) n g = hnD (M 200) d →
      Runs sx_X4_actBelowTop L (xcF scr) (fun _ M' => RelS M' a (hnD (M 200) d) ∧ FrS M M' a) 9 [wR a, wI d, wR (a + 5 + 2 * d.toNat), wI k, u, v] [] N := by
    intro n
    induction n with
    | zero =>
      intro k N g u v r1 I1 f1 k0 hk hR
      have e2 := r1.hc hd
      have c1 := I1.2.2.1 d hd.1 hd.2
      refine R_iload_n (q := 10) (i := 3) rfl rfl rfl rfl ?_
      refine R_aload_n (q := 11) (i := 2) rfl rfl rfl rfl ?_
      refine R_getI (q := 14) (k1 := 2) rfl rfl rfl (lay_dk (dkI hst hd)) rfl (by omega) rfl ?_
      refine R_icmp_ge (q := 17) (tgt := 137) rfl rfl (by decide) (by omega) (by omega) (fun h14 => ?_) (fun h14 => ?_)
      · refine R_vret rfl rfl ?_
        exact ⟨by rw [← hR]; exact r1, f1⟩
      · omega
    | succ n ih =>
      intro k N g u v r1 I1 f1 k0 hk hR
      have e2 := r1.hc hd
      have e1 := r1.wa hd
      have c1 := I1.2.2.1 d hd.1 hd.2
      have le := I1.le hd.1 hd.2
      by_cases hw : g (27 + 4 * d) ≤ 0
      · rw [hnd_z hw] at hR
        refine R_iload_n (q := 10) (i := 3) rfl rfl rfl rfl ?_
        refine R_aload_n (q := 11) (i := 2) rfl rfl rfl rfl ?_
        refine R_getI (q := 14) (k1 := 2) rfl rfl rfl (lay_dk (dkI hst hd)) rfl (by omega) rfl ?_
        refine R_icmp_ge (q := 17) (tgt := 137) rfl rfl (by decide) (by omega) (by omega) (fun h14 => ?_) (fun h14 => ?_)
        · omega
        · refine R_aload_n (q := 18) (i := 2) rfl rfl rfl rfl ?_
          refine R_getI (q := 21) (k1 := 1) rfl rfl rfl (lay_dk (dkI hst hd)) rfl (by omega) rfl ?_
          refine R_if_le (q := 24) (tgt := 137) rfl rfl (by decide) (by omega) (fun h21 => ?_) (fun h21 => ?_)
          · refine R_vret rfl rfl ?_
            exact ⟨by rw [← hR]; exact r1, f1⟩
          · omega
      · have hS : ¬ lkS g d (M 200 9) := fun z => by have := z.2.1; omega
        rw [hnd_g hw hS] at hR
        obtain ⟨iB, -, q1, q2, -⟩ := lk_pre hd (by omega) I1 g9
        obtain ⟨t, ht⟩ : ∃ t, g (38 + 16 * d) = t := ⟨_, rfl⟩
        have qq := I1.2.2.2.2.1 d 0 ⟨hd.1, hd.2, by omega, by omega⟩
        rw [Int.add_zero, ht] at qq
        rw [ht] at q1
        have i7 := I1.i7
        have hq := QF.of I1 hd (by omega)
        have db := dbt_bd iB q1
        have d0 := dbt_0 iB q1
        have r2 := r1.lkd hd
        have f2 : FrS M (upM N (a + 5 + 2 * d.toNat) 3 (N (a + 5 + 2 * d.toNat) 3 + 1)) a := f1.up (by omega) (by omega)
        have l7 : lkd g d 7 = g 7 := lkd_o (by omega)
        have hq2 : QF (lkd g d) d := hq.cg hd (lkd_o (by omega)) (fun j _ _ => lkd_o (by omega))
        have hI2 := lkg_Inv (o := M 200 9) hd (by omega) I1 hS
        have hcn : lkg g d (26 + 4 * d) = g (26 + 4 * d) := lkg_k hd (by omega) I1 (Or.inl (by unfold Kp; omega))
        have s0 := iB.1.1
        have hRg : 0 ≤ g 0 * (d + 1) ∧ g 0 * (d + 1) ≤ 200 * 3 := mul_bd s0 (by omega)
        have es0 : upM N (a + 5 + 2 * d.toNat) 3 (N (a + 5 + 2 * d.toNat) 3 + 1) (a + 1) 0 = g 0 := (r2.st (by omega)).trans (lkd_o (by omega))
        refine R_iload_n (q := 10) (i := 3) rfl rfl rfl rfl ?_
        refine R_aload_n (q := 11) (i := 2) rfl rfl rfl rfl ?_
        refine R_getI (q := 14) (k1 := 2) rfl rfl rfl (lay_dk (dkI hst hd)) rfl (by omega) rfl ?_
        refine R_icmp_ge (q := 17) (tgt := 137) rfl rfl (by decide) (by omega) (by omega) (fun h14 => ?_) (fun h14 => ?_)
        · omega
        · refine R_aload_n (q := 18) (i := 2) rfl rfl rfl rfl ?_
          refine R_getI (q := 21) (k1 := 1) rfl rfl rfl (lay_dk (dkI hst hd)) rfl (by omega) rfl ?_
          refine R_if_le (q := 24) (tgt := 137) rfl rfl (by decide) (by omega) (fun h21 => ?_) (fun h21 => ?_)
          · omega
          · refine R_aload_n (q := 25) (i := 2) rfl rfl rfl rfl ?_
            refine R_getR (q := 28) rfl rfl rfl (lay_dk (dkI hst hd)) rfl (by omega) ?_
            refine R_iconst (q := 29) rfl rfl ?_
            refine R_iald (q := 30) (v := t) rfl rfl (lay_dq (dkI hst hd)) (by omega) (by omega) ((r1.qu hd (by omega)).trans (by rw [Int.add_zero]; exact ht)) ?_
            refine R_istore (q := 32) rfl rfl rfl ?_
            refine R_aload_n (q := 33) (i := 0) rfl rfl rfl rfl ?_
            refine R_iload (q := 35) rfl rfl rfl ?_
            refine R_gh (g) ?_
            refine R_cV1I (q := 38) (ci := 4) (C := C_X4_doubtOf) rfl rfl rfl rfl rfl ⟨_, _, rfl, ⟨⟨hst, r1.gh hst, I1⟩, qq.1, qq.2.1⟩⟩ rfl (lay0 hst) (by omega) (fun x M' hc => ?_)
            replace hc := hc _ _ rfl
            obtain ⟨hc, rfl⟩ := hc
            simp only [gho_g] at hc
            subst hc
            refine R_un ?_
            refine R_istore (q := 40) rfl rfl rfl ?_
            refine R_aload_n (q := 41) (i := 2) rfl rfl rfl rfl ?_
            refine R_dup (q := 42) rfl rfl rfl ?_
            refine R_getI (q := 45) (k1 := 3) rfl rfl rfl (lay_dk (dkI hst hd)) rfl (by omega) rfl ?_
            refine R_iconst (q := 46) rfl rfl ?_
            refine R_iadd (q := 47) rfl rfl ?_
            refine R_putI (q := 50) (k1 := 3) rfl rfl rfl (lay_dk (dkI hst hd)) rfl (by omega) rfl rfl rfl rfl ?_
            generalize upM N (a + 5 + 2 * d.toNat) 3 (N (a + 5 + 2 * d.toNat) 3 + 1) = N2 at r2 f2 es0 ⊢
            refine R_iload (q := 52) rfl rfl rfl ?_
            refine R_if_ne (q := 55) (tgt := 66) rfl rfl (by decide) (by omega) (fun h52 => ?_) (fun h52 => ?_)
            · refine R_iload (q := 68) rfl rfl rfl ?_
              refine R_aload_n (q := 69) (i := 0) rfl rfl rfl rfl ?_
              refine R_getR (q := 72) rfl rfl rfl (lay0 hst) rfl (by omega) ?_
              refine R_iconst (q := 73) rfl rfl ?_
              refine R_iald (q := 74) (v := g 0) rfl rfl (layi hst rfl) (by omega) (by omega) es0 ?_
              refine R_iload_n (q := 75) (i := 1) rfl rfl rfl rfl ?_
              refine R_iconst (q := 76) rfl rfl ?_
              refine R_iadd (q := 77) rfl rfl ?_
              refine R_imul (q := 78) rfl rfl ?_
              refine R_icmp_gt (q := 81) (tgt := 98) rfl rfl (by decide) (by omega) (by omega) (fun h78 => ?_) (fun h78 => ?_)
              · refine R_aload_n (q := 99) (i := 2) rfl rfl rfl rfl ?_
                refine R_iload (q := 101) rfl rfl rfl ?_
                refine R_cV1N (q := 104) (ci := 0) (C := C_X0_dismiss) rfl rfl rfl rfl rfl ⟨_, _, rfl, (by have := hq2.pre r2 hst hd; rw [show lkd g d (38 + 16 * d) = t from (lkd_o (by omega)).trans ht] at this; exact this)⟩ rfl (lay_dk (dkI hst hd)) (by omega) (fun M' hc => ?_)
                replace hc := hc _ _ rfl
                rw [← show lkd g d (38 + 16 * d) = t from (lkd_o (by omega)).trans ht] at hc
                obtain ⟨r3, f3⟩ := hq2.post r2 hd hc
                have f3 := f2.tr f3
                clear hc
                generalize M' = N3 at r3 f3 ⊢
                have w3 : rmv (lkd g d) d 0 (27 + 4 * (d + 1)) = g (31 + 4 * d) := (rl_o hd le.2 (by omega) (by omega) (by omega)).trans (congrArg g (by omega))
                have q2' := q2 hd2.2
                have e3 := r3.wa (d := d + 1) (by omega)
                have r4 := r3.jn (d := d + 1) (t := t) (by omega) (by omega)
                have f4 : FrS M (upM (upM N3 (a + 5 + 2 * (d + 1).toNat + 1) (N3 (a + 5 + 2 * (d + 1).toNat) 1) t) (a + 5 + 2 * (d + 1).toNat) 1 (N3 (a + 5 + 2 * (d + 1).toNat) 1 + 1)) a := (f3.up (by omega) (by omega)).up (by omega) (by omega)
                have o4 : ∀ j, 86 ≤ j ∨ j = 7 → jn (rmv (lkd g d) d 0) (d + 1) t j = g j := fun j hj => by
                  unfold jn
                  rw [us_n (by omega), us_n (by rw [w3]; omega), rl_o hd le.2 (by omega) (by omega) (by omega)]
                refine R_aload_n (q := 105) (i := 0) rfl rfl rfl rfl ?_
                refine R_getR (q := 108) rfl rfl rfl (lay0 hst) rfl (by omega) ?_
                refine R_iload_n (q := 109) (i := 1) rfl rfl rfl rfl ?_
                refine R_iconst (q := 110) rfl rfl ?_
                refine R_iadd (q := 111) rfl rfl ?_
                refine R_aald (q := 112) (r2 := a + 5 + 2 * (d + 1).toNat) rfl rfl (layi hst rfl) (by omega) (by omega) rfl ?_
                refine R_iload (q := 114) rfl rfl rfl ?_
                refine R_cV1N (q := 117) (ci := 0) (C := C_X0_append) rfl rfl rfl rfl rfl ⟨_, _, rfl, ⟨dkI hst (by omega), by omega, by omega⟩⟩ rfl (lay_dk (dkI hst (d := d + 1) (by omega))) (by omega) (fun M' hc => ?_)
                replace hc := hc _ _ rfl
                rw [hc] at r4 f4
                clear hc
                generalize M' = N4 at r4 f4 ⊢
                have e4 := r4.ho (t := t) (by rw [o4 7 (by omega)]; exact ⟨qq.1, qq.2.1⟩) q1.2
                rw [o4 _ (by omega)] at e4
                refine R_aload_n (q := 118) (i := 0) rfl rfl rfl rfl ?_
                refine R_getR (q := 121) rfl rfl rfl (lay0 hst) rfl (by omega) ?_
                refine R_getR (q := 124) rfl rfl rfl (lay_tk (tkI hst)) rfl (by omega) ?_
                refine R_iload (q := 126) rfl rfl rfl ?_
                refine R_dup2 (q := 127) rfl rfl rfl rfl ?_
                refine R_iald (q := 128) (v := g (94 + 9 * t)) rfl rfl (lay_ta (tkI hst) rfl) (by omega) (by omega) e4 ?_
                refine R_iconst (q := 129) rfl rfl ?_
                refine R_iadd (q := 130) rfl rfl ?_
                refine R_iast (q := 131) rfl rfl (lay_ta (tkI hst) rfl) (by omega) (by omega) rfl ?_
                refine R_iinc (q := 134) rfl rfl rfl rfl ?_
                refine R_goto (q := 137) (tgt := 9) rfl rfl (by decide) ?_
                first
                  | exact ih (k + 1) _ _ _ _ rZ hI2 fZ (by omega) (by omega) hR
                  | (refine ih (k + 1) _ (lkg g d) _ _ ?_ hI2 (f4.up (by omega) (by omega)) (by omega) (by omega) hR
                     rw [lkg_4 ht (fun z => by have := d0.mpr z; omega) (by omega) (by omega)]
                     exact tkU r4 (c := 8) q1 (by omega) rfl rfl (by omega))
              · refine R_aload_n (q := 82) (i := 0) rfl rfl rfl rfl ?_
                refine R_iload (q := 84) rfl rfl rfl ?_
                refine R_gh (lkd g d) ?_
                refine R_cV1N (q := 87) (ci := 4) (C := C_X4_takeFee) rfl rfl rfl rfl rfl ⟨_, _, rfl, ⟨hst, r2.gh hst, ⟨qq.1, show t < lkd g d 7 by omega⟩, show lkd g d 7 ≤ 64 by omega⟩⟩ rfl (lay0 hst) (by omega) (fun M' hc => ?_)
                replace hc := hc _ _ rfl
                obtain ⟨r3, f3⟩ := hc
                simp only [gho_g] at r3
                rw [show lkd g d 1 = g 1 from lkd_o (by omega)] at r3
                have f3 := f2.tr f3.gh
                generalize M' = N3 at r3 f3 ⊢
                refine R_aload_n (q := 88) (i := 0) rfl rfl rfl rfl ?_
                refine R_iload (q := 90) rfl rfl rfl ?_
                refine R_aload_n (q := 91) (i := 2) rfl rfl rfl rfl ?_
                refine R_iconst (q := 92) rfl rfl ?_
                refine R_gh (tks (lkd g d) t (g 1) 11) ?_
                refine R_cV3N (q := 95) (ci := 4) (C := C_X4_letPass) rfl rfl rfl rfl rfl ⟨_, _, _, _, rfl, ⟨hst, r3.gh hst, q1, d, hd, rfl, hq2.cg hd (tks_o (by omega) (by omega)) (fun j _ _ => tks_o (by omega) (by omega)), ht.symm.trans ((tks_o (by omega) (by omega)).trans (lkd_o (by omega))).symm⟩⟩ rfl (lay0 hst) (by omega) (fun M' hc => ?_)
                replace hc := hc _ _ _ _ rfl
                obtain ⟨r4, f4⟩ := hc d hd rfl
                simp only [gho_g] at r4
                rw [rmv_tks hd (by rw [lkd_o (by omega)]; exact le.2) qq.1 (by omega)] at r4
                have rZ : RelS M' a (lkg g d) := by rw [lkg_2 ht (fun z => by have := d0.mpr z; omega) ⟨by omega, by omega⟩]; exact r4
                have fZ : FrS M M' a := f3.tr f4.gh
                refine R_goto (q := 98) (tgt := 131) rfl rfl (by decide) ?_
                refine R_iinc (q := 134) rfl rfl rfl rfl ?_
                refine R_goto (q := 137) (tgt := 9) rfl rfl (by decide) ?_
                first
                  | exact ih (k + 1) _ _ _ _ rZ hI2 fZ (by omega) (by omega) hR
                  | (refine ih (k + 1) _ (lkg g d) _ _ ?_ hI2 (f4.up (by omega) (by omega)) (by omega) (by omega) hR
                     rw [lkg_4 ht (fun z => by have := d0.mpr z; omega) (by omega) (by omega)]
                     exact tkU r4 (c := 8) q1 (by omega) rfl rfl (by omega))
            · refine R_aload_n (q := 56) (i := 0) rfl rfl rfl rfl ?_
              refine R_iload (q := 58) rfl rfl rfl ?_
              refine R_aload_n (q := 59) (i := 2) rfl rfl rfl rfl ?_
              refine R_iconst (q := 60) rfl rfl ?_
              refine R_gh (lkd g d) ?_
              refine R_cV3N (q := 63) (ci := 4) (C := C_X4_letPass) rfl rfl rfl rfl rfl ⟨_, _, _, _, rfl, ⟨hst, r2.gh hst, q1, d, hd, rfl, hq2, ht.symm.trans (lkd_o (by omega)).symm⟩⟩ rfl (lay0 hst) (by omega) (fun M' hc => ?_)
              replace hc := hc _ _ _ _ rfl
              obtain ⟨r3, f3⟩ := hc d hd rfl
              simp only [gho_g] at r3
              have rZ : RelS M' a (lkg g d) := by rw [lkg_1 ht (d0.mp (by omega))]; exact r3
              have fZ : FrS M M' a := f2.tr f3.gh
              refine R_goto (q := 66) (tgt := 131) rfl rfl (by decide) ?_
              refine R_iinc (q := 134) rfl rfl rfl rfl ?_
              refine R_goto (q := 137) (tgt := 9) rfl rfl (by decide) ?_
              first
                | exact ih (k + 1) _ _ _ _ rZ hI2 fZ (by omega) (by omega) hR
                | (refine ih (k + 1) _ (lkg g d) _ _ ?_ hI2 (f4.up (by omega) (by omega)) (by omega) (by omega) hR
                   rw [lkg_4 ht (fun z => by have := d0.mpr z; omega) (by omega) (by omega)]
                   exact tkU r4 (c := 8) q1 (by omega) rfl rfl (by omega))
  refine R_aload_n (q := 1) (i := 0) rfl rfl rfl rfl ?_
  refine R_getR (q := 4) rfl rfl rfl (lay0 hst) rfl (by omega) ?_
  refine R_iload_n (q := 5) (i := 1) rfl rfl rfl rfl ?_
  refine R_aald (q := 6) (r2 := a + 5 + 2 * d.toNat) rfl rfl (layi hst rfl) (by omega) (by omega) rfl ?_
  refine R_astore_n (q := 7) (i := 2) rfl rfl rfl rfl ?_
  refine R_iconst (q := 8) rfl rfl ?_
  refine R_istore_n (q := 9) (i := 3) rfl rfl rfl rfl ?_
  exact L1 (M 200 (26 + 4 * d)).toNat 0 M (M 200) _ _ hr I FrS.rf (by omega) (by omega) rfl
set_option maxRecDepth 100000 in
theorem mt_X4_actBelowTop : MtOK yX4_actBelowTop cX4_actBelowTop 6 none 3 C_X4_actBelowTop := by
  refine mt_of sx_X4_actBelowTop (by decide +kernel) (Or.inr (Or.inr ⟨rfl, rfl, rfl⟩)) (by decide +kernel) fdX4_ok kLX4_ok kIX4_ok sgX4_ok ntX4_ok
    (all_cons (clokV mt_X4_doubtOf rfl (GT_at 417 (by decide +kernel) (by decide +kernel)) (GT_at 12 (by decide +kernel) (by decide +kernel)) (GT_at 372 (by decide +kernel) (by decide +kernel)) (by decide +kernel) (by decide) (GT_at 370 (by decide +kernel) (by decide +kernel)) (GT_at 371 (by decide +kernel) (by decide +kernel)) rfl rfl) (all_cons (clokV mt_X4_letPass rfl (GT_at 418 (by decide +kernel) (by decide +kernel)) (GT_at 12 (by decide +kernel) (by decide +kernel)) (GT_at 421 (by decide +kernel) (by decide +kernel)) (by decide +kernel) (by decide) (GT_at 420 (by decide +kernel) (by decide +kernel)) (GT_at 4 (by decide +kernel) (by decide +kernel)) rfl rfl) (all_cons (clokV mt_X4_takeFee rfl (GT_at 444 (by decide +kernel) (by decide +kernel)) (GT_at 12 (by decide +kernel) (by decide +kernel)) (GT_at 447 (by decide +kernel) (by decide +kernel)) (by decide +kernel) (by decide) (GT_at 446 (by decide +kernel) (by decide +kernel)) (GT_at 7 (by decide +kernel) (by decide +kernel)) rfl rfl) (all_cons (clokV mt_X0_dismiss rfl (GT_at 422 (by decide +kernel) (by decide +kernel)) (GT_at 13 (by decide +kernel) (by decide +kernel)) (GT_at 398 (by decide +kernel) (by decide +kernel)) (by decide +kernel) (by decide) (GT_at 396 (by decide +kernel) (by decide +kernel)) (GT_at 397 (by decide +kernel) (by decide +kernel)) rfl rfl) (all_cons (clokV mt_X0_append rfl (GT_at 274 (by decide +kernel) (by decide +kernel)) (GT_at 13 (by decide +kernel) (by decide +kernel)) (GT_at 277 (by decide +kernel) (by decide +kernel)) (by decide +kernel) (by decide) (GT_at 275 (by decide +kernel) (by decide +kernel)) (GT_at 276 (by decide +kernel) (by decide +kernel)) rfl rfl) (all_nil)))))) ?_ ?_
  · rintro as M - ⟨a, d, rfl, hp⟩
    exact Nat.le_of_ble_eq_true rfl
  · rintro L scr as M - ⟨a, d, rfl, hp⟩
    exact Runs.mono (fun x M' h _ _ e => by cases e; exact h) (ok_X4_actBelowTop L scr a d M hp)
