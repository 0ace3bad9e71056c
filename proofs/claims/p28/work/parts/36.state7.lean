abbrev C_X4_takeDelays : Ct := (1, false, fun as M => ∃ (a : Nat), as = [wR a] ∧ (SI M a), fun as M x M' => ∀ (a : Nat), as = [wR a] → (RelS M' a (dB 3 0 (M 200)) ∧ FrS M M' a))
def sx_X4_takeDelays : Sx := (tb_X4_takeDelays, fdX4, kLX4, kIX4, sgX4, ntX4, [], 0)
set_option maxRecDepth 100000 in
set_option maxHeartbeats 1000000 in
theorem ok_X4_takeDelays (L : Nat) (scr : Int → Int) (a : Nat) (M : Mem) (hp : SI M a) : Runs sx_X4_takeDelays L (xcF scr) (fun x M' => RelS M' a (dB 3 0 (M 200)) ∧ FrS M M' a) 0 [wR a, none, none] [] M := by
  obtain ⟨hst, hr, I⟩ := hp
  have hb := id hst
  unfold isSt at hb
  have L1 : ∀ (m : Nat) (d : Int) (N : Mem) (g : Int → Int) (u : PV), 0 ≤ d → d + m = 3 → RelS N a g → Inv g → FrS M N a → dB m d g = dB 3 0 (M 200) →
      Runs sx_X4_takeDelays L (xcF scr) (fun _ M' => RelS M' a (dB 3 0 (M 200)) ∧ FrS M M' a) 2 [wR a, wI d, u] [] N := by
    intro m
    induction m with
    | zero =>
      intro d N g u d0 hm r1 I1 f1 hR
      refine R_iload_n (q := 3) (i := 1) rfl rfl rfl rfl ?_
      refine R_iconst (q := 4) rfl rfl ?_
      refine R_icmp_ge (q := 7) (tgt := 77) rfl rfl (by decide) (by omega) (by omega) (fun h4 => ?_) (fun h4 => ?_)
      · refine R_vret rfl rfl ?_
        exact ⟨by rw [← hR]; exact r1, f1⟩
      · omega
    | succ m ihm =>
      intro d N g u d0 hm r1 I1 f1 hR
      have hd : 0 ≤ d ∧ d < 3 := by omega
      have L2 : ∀ (n : Nat) (p : Int) (N : Mem) (g' : Int → Int), 0 ≤ p → p + n = g' (27 + 4 * d) → RelS N a g' → Inv g' → FrS M N a → dly d n p g' = dlD g d →
          Runs sx_X4_takeDelays L (xcF scr) (fun _ M' => RelS M' a (dB 3 0 (M 200)) ∧ FrS M M' a) 9 [wR a, wI d, wI p] [] N := by
        intro n
        induction n with
        | zero =>
          intro p N g' p0 hn r1 I1' f1 hR2
          have e1 := r1.wa hd
          have le := I1'.le hd.1 hd.2
          refine R_iload_n (q := 10) (i := 2) rfl rfl rfl rfl ?_
          refine R_aload_n (q := 11) (i := 0) rfl rfl rfl rfl ?_
          refine R_getR (q := 14) rfl rfl rfl (lay0 hst) rfl (by omega) ?_
          refine R_iload_n (q := 15) (i := 1) rfl rfl rfl rfl ?_
          refine R_aald (q := 16) (r2 := a + 5 + 2 * d.toNat) rfl rfl (layi hst rfl) (by omega) (by omega) rfl ?_
          refine R_getI (q := 19) (k1 := 1) rfl rfl rfl (lay_dk (dkI hst hd)) rfl (by omega) rfl ?_
          refine R_icmp_ge (q := 22) (tgt := 71) rfl rfl (by decide) (by omega) (by omega) (fun h19 => ?_) (fun h19 => ?_)
          · refine R_iinc (q := 74) rfl rfl rfl rfl ?_
            refine R_goto (q := 77) (tgt := 2) rfl rfl (by decide) ?_
            exact ihm (d + 1) _ (dlD g d) _ (by omega) (by omega) (by rw [← hR2]; exact r1) (dlD_Inv hd I1).1 f1 hR
          · omega
        | succ n ih =>
          intro p N g' p0 hn r1 I1' f1 hR2
          have e1 := r1.wa hd
          have le := I1'.le hd.1 hd.2
          have i7 := I1'.i7
          have q := I1'.2.2.2.2.1 d p ⟨hd.1, hd.2, p0, by omega⟩
          obtain ⟨t, ht⟩ : ∃ t, g' (38 + 16 * d + p) = t := ⟨_, rfl⟩
          rw [ht] at q
          have q2 : t < 64 := by omega
          have r2 := tkU r1 (t := t) (c := 5) (x := g' (91 + 9 * t) + g' 3) (r := a + 11 + 6) ⟨q.1, q2⟩ (by omega) rfl rfl (i := 91 + 9 * t) (by omega)
          have e2 := r2.st (k := 3) (by omega)
          rw [us_n (by omega)] at e2
          have e3 := r2.dl
          rw [us_n (by omega)] at e3
          have r3 := r2.up 13 (x := g' 13 + g' 3) (by unfold Pv; omega) (by omega) rfl rfl (en_n (nP (by omega)))
          have r3 : RelS (upM (upM N (a + 11 + 6) t (g' (91 + 9 * t) + g' 3)) a 8 (g' 13 + g' 3)) a (tks g' t (g' 3) 13) := r3
          have It := tks_Inv (f := g') (t := t) (c := g' 3) (w := 13) q.1 (by omega) I1'
          have ew : tks g' t (g' 3) 13 (27 + 4 * d) = g' (27 + 4 * d) := tks_o (by omega) (by omega)
          have hR3 : dly d n (p + 1) (tks g' t (g' 3) 13) = dlD g d := by rw [← hR2, ← ht]; rfl
          refine R_iload_n (q := 10) (i := 2) rfl rfl rfl rfl ?_
          refine R_aload_n (q := 11) (i := 0) rfl rfl rfl rfl ?_
          refine R_getR (q := 14) rfl rfl rfl (lay0 hst) rfl (by omega) ?_
          refine R_iload_n (q := 15) (i := 1) rfl rfl rfl rfl ?_
          refine R_aald (q := 16) (r2 := a + 5 + 2 * d.toNat) rfl rfl (layi hst rfl) (by omega) (by omega) rfl ?_
          refine R_getI (q := 19) (k1 := 1) rfl rfl rfl (lay_dk (dkI hst hd)) rfl (by omega) rfl ?_
          refine R_icmp_ge (q := 22) (tgt := 71) rfl rfl (by decide) (by omega) (by omega) (fun h19 => ?_) (fun h19 => ?_)
          · omega
          · refine R_aload_n (q := 23) (i := 0) rfl rfl rfl rfl ?_
            refine R_getR (q := 26) rfl rfl rfl (lay0 hst) rfl (by omega) ?_
            refine R_getR (q := 29) rfl rfl rfl (lay_tk (tkI hst)) rfl (by omega) ?_
            refine R_aload_n (q := 30) (i := 0) rfl rfl rfl rfl ?_
            refine R_getR (q := 33) rfl rfl rfl (lay0 hst) rfl (by omega) ?_
            refine R_iload_n (q := 34) (i := 1) rfl rfl rfl rfl ?_
            refine R_aald (q := 35) (r2 := a + 5 + 2 * d.toNat) rfl rfl (layi hst rfl) (by omega) (by omega) rfl ?_
            refine R_getR (q := 38) rfl rfl rfl (lay_dk (dkI hst hd)) rfl (by omega) ?_
            refine R_iload_n (q := 39) (i := 2) rfl rfl rfl rfl ?_
            refine R_iald (q := 40) (v := t) rfl rfl (lay_dq (dkI hst hd)) (by omega) (by omega) ((r1.qu hd (by omega)).trans ht) ?_
            refine R_dup2 (q := 41) rfl rfl rfl rfl ?_
            refine R_iald (q := 42) (v := g' (91 + 9 * t)) rfl rfl (lay_ta (tkI hst) rfl) (by omega) (by omega) (r1.ac ⟨q.1, q.2.1⟩ q2) ?_
            refine R_aload_n (q := 43) (i := 0) rfl rfl rfl rfl ?_
            refine R_getR (q := 46) rfl rfl rfl (lay0 hst) rfl (by omega) ?_
            refine R_iconst (q := 47) rfl rfl ?_
            refine R_iald (q := 48) (v := g' 3) rfl rfl (layi hst rfl) (by omega) (by omega) (r1.st (by omega)) ?_
            refine R_iadd (q := 49) rfl rfl ?_
            refine R_iast (q := 50) rfl rfl (lay_ta (tkI hst) rfl) (by omega) (by omega) rfl ?_
            refine R_aload_n (q := 51) (i := 0) rfl rfl rfl rfl ?_
            refine R_dup (q := 52) rfl rfl rfl ?_
            refine R_getI (q := 55) (k1 := 8) rfl rfl rfl (lay0 hst) rfl (by omega) rfl ?_
            refine R_aload_n (q := 56) (i := 0) rfl rfl rfl rfl ?_
            refine R_getR (q := 59) rfl rfl rfl (lay0 hst) rfl (by omega) ?_
            refine R_iconst (q := 60) rfl rfl ?_
            refine R_iald (q := 61) (v := g' 3) rfl rfl (layi hst rfl) (by omega) (by omega) e2 ?_
            refine R_iadd (q := 62) rfl rfl ?_
            refine R_putI (q := 65) (k1 := 8) rfl rfl rfl (lay0 hst) rfl (by omega) rfl rfl rfl rfl ?_
            refine R_iinc (q := 68) rfl rfl rfl rfl ?_
            refine R_goto (q := 71) (tgt := 9) rfl rfl (by decide) ?_
            rw [e3]
            exact ih (p + 1) _ _ (by omega) (by omega) r3 It ((f1.up (by omega) (by omega)).up (by omega) (by omega)) hR3
      have le := I1.le hd.1 hd.2
      refine R_iload_n (q := 3) (i := 1) rfl rfl rfl rfl ?_
      refine R_iconst (q := 4) rfl rfl ?_
      refine R_icmp_ge (q := 7) (tgt := 77) rfl rfl (by decide) (by omega) (by omega) (fun h4 => ?_) (fun h4 => ?_)
      · omega
      · refine R_iconst (q := 8) rfl rfl ?_
        refine R_istore_n (q := 9) (i := 2) rfl rfl rfl rfl ?_
        exact L2 (g (27 + 4 * d)).toNat 0 N g (by omega) (by omega) r1 I1 f1 rfl
  refine R_iconst (q := 1) rfl rfl ?_
  refine R_istore_n (q := 2) (i := 1) rfl rfl rfl rfl ?_
  exact L1 3 0 M (M 200) _ (by omega) (by omega) hr I FrS.rf rfl
set_option maxRecDepth 100000 in
theorem mt_X4_takeDelays : MtOK yX4_takeDelays cX4_takeDelays 3 none 0 C_X4_takeDelays := by
  refine mt_of sx_X4_takeDelays (by decide +kernel) (Or.inr (Or.inr ⟨rfl, rfl, rfl⟩)) (by decide +kernel) fdX4_ok kLX4_ok kIX4_ok sgX4_ok ntX4_ok
    (all_nil) ?_ ?_
  · rintro as M - ⟨a, rfl, hp⟩
    exact Nat.le_of_ble_eq_true rfl
  · rintro L scr as M - ⟨a, rfl, hp⟩
    exact Runs.mono (fun x M' h _ e => by cases e; exact h) (ok_X4_takeDelays L scr a M hp)
/-- those that wait and those that went are as many after a turn as before -/
def Wt (f : Int → Int) : Int := f 27 + f 31 + f 35 + f 8 + f 9
theorem Wt_o {f g : Int → Int} (h : ∀ j, j = 27 ∨ j = 31 ∨ j = 35 ∨ j = 8 ∨ j = 9 → g j = f j) : Wt g = Wt f := by
  unfold Wt
  rw [h 27 (by omega), h 31 (by omega), h 35 (by omega), h 8 (by omega), h 9 (by omega)]
theorem Wt_rmv {f : Int → Int} {d : Int} (hd : 0 ≤ d ∧ d < 3) (hw : f (27 + 4 * d) ≤ 16) : Wt (rmv f d 0) = Wt f - 1 := by
  have b := fun e a c => rmv_l (f := f) (d := d) (e := e) (p0 := 0) hd ⟨a, c⟩ (by omega)
  have b0 := b 0 (by omega) (by omega)
  have b1 := b 1 (by omega) (by omega)
  have b2 := b 2 (by omega) (by omega)
  unfold Wt
  rw [rmv_o (j := 8) hd (by omega) hw (by omega) (by omega), rmv_o (j := 9) hd (by omega) hw (by omega) (by omega)]
  have c0 : rmv f d 0 (27 + 4 * 0) = rmv f d 0 27 := rfl
  have c1 : rmv f d 0 (27 + 4 * 1) = rmv f d 0 31 := rfl
  have c2 : rmv f d 0 (27 + 4 * 2) = rmv f d 0 35 := rfl
  have m0 : f (27 + 4 * 0) = f 27 := rfl
  have m1 : f (27 + 4 * 1) = f 31 := rfl
  have m2 : f (27 + 4 * 2) = f 35 := rfl
  have : bt_ (0 = d) 1 + bt_ (1 = d) 1 + bt_ (2 = d) 1 = 1 := d3 (P := fun d => bt_ (0 = d) 1 + bt_ (1 = d) 1 + bt_ (2 = d) 1 = 1) hd (by decide) (by decide) (by decide)
  omega
theorem Wt_pss {f : Int → Int} {d t w : Int} (ht : 0 ≤ t) (hd : 0 ≤ d ∧ d < 3) (hw : w = 1 ∨ w = 2) : Wt (pss f d t w) = Wt f + 1 := by
  obtain ⟨a, b⟩ := pss_8 (f := f) (d := d) (t := t) (w := w) ht hd hw
  unfold Wt
  rw [a, b, pss_o (by omega) (by omega) (by omega) (by omega), pss_o (j := 31) (by omega) (by omega) (by omega) (by omega), pss_o (j := 35) (by omega) (by omega) (by omega) (by omega)]
  rcases hw with rfl | rfl
  · rw [bt_t rfl, bt_f (by omega)]
    omega
  · rw [bt_t rfl, bt_f (by omega)]
    omega
theorem Wt_lkg {f : Int → Int} {d : Int} (hd : 0 ≤ d ∧ d < 3) (hn : 1 ≤ f (27 + 4 * d)) (I : Inv f) : Wt (lkg f d) = Wt f := by
  have le := I.le hd.1 hd.2
  have i7 := I.i7
  obtain ⟨t, ht⟩ : ∃ t, f (38 + 16 * d) = t := ⟨_, rfl⟩
  have q := I.2.2.2.2.1 d 0 ⟨hd.1, hd.2, by omega, by omega⟩
  rw [Int.add_zero, ht] at q
  have e1 : Wt (rmv (lkd f d) d 0) = Wt f - 1 := by
    rw [Wt_rmv hd (by rw [lkd_o (by omega)]; exact le.2), Wt_o (f := f) (g := lkd f d) (fun j hj => lkd_o (by omega))]
  by_cases h : msk f t = 0
  · rw [lkg_1 ht h, Wt_pss q.1 hd (by omega), e1]
    omega
  · by_cases h2 : d ≠ 2 ∧ dbt f t ≤ f 0 * (d + 1)
    · rw [lkg_2 ht h h2, Wt_pss q.1 hd (by omega), Wt_o (f := rmv (lkd f d) d 0) (fun j hj => tks_o (by omega) (by omega)), e1]
      omega
    · by_cases h3 : d = 2
      · subst h3
        rw [lkg_3 ht h]
        unfold opn
        rw [Wt_pss q.1 hd (by omega), Wt_o (f := rmv (lkd f 2) 2 0) (fun j hj => by rw [us_n (by omega), us_n (by omega), us_n (by omega), us_n (by omega)]), e1]
        omega
      · rw [lkg_4 ht h h3 (by omega)]
        have hw : 0 ≤ rmv (lkd f d) d 0 (27 + 4 * (d + 1)) := by
          rw [rl_o hd le.2 (by omega) (by omega) (by omega)]
          exact (I.le (d := d + 1) (by omega) (by omega)).1
        have hj : ∀ j, j ≠ 27 + 4 * (d + 1) → j < 38 → jn (rmv (lkd f d) d 0) (d + 1) t j = rmv (lkd f d) d 0 j := fun j h1 h2 => by
          unfold jn
          rw [us_n h1, us_n (by omega)]
        have hs : jn (rmv (lkd f d) d 0) (d + 1) t (27 + 4 * (d + 1)) = rmv (lkd f d) d 0 (27 + 4 * (d + 1)) + 1 := us_s
        rw [Wt_o (f := jn (rmv (lkd f d) d 0) (d + 1) t) (fun j hj => us_n (by omega))]
        have : Wt (jn (rmv (lkd f d) d 0) (d + 1) t) = Wt (rmv (lkd f d) d 0) + 1 := by
          unfold Wt
          have : d = 0 ∨ d = 1 := by omega
          rcases this with rfl | rfl
          · have hs : jn (rmv (lkd f 0) 0 0) (0 + 1) t 31 = rmv (lkd f 0) 0 0 31 + 1 := hs
            rw [hs, hj 27 (by omega) (by omega), hj 35 (by omega) (by omega), hj 8 (by omega) (by omega), hj 9 (by omega) (by omega)]
            omega
          · have hs : jn (rmv (lkd f 1) 1 0) (1 + 1) t 35 = rmv (lkd f 1) 1 0 35 + 1 := hs
            rw [hs, hj 27 (by omega) (by omega), hj 31 (by omega) (by omega), hj 8 (by omega) (by omega), hj 9 (by omega) (by omega)]
            omega
        omega
theorem Wt_hnd {d o : Int} (hd : 0 ≤ d ∧ d < 3) : ∀ (n : Nat) (f : Int → Int), Inv f → Wt (hnd d o n f) = Wt f
  | 0, f, _ => rfl
  | n + 1, f, I => by
    by_cases h : f (27 + 4 * d) ≤ 0
    · rw [hnd_z h]
    · by_cases h2 : lkS f d o
      · rw [hnd_s h h2]
        exact Wt_o (fun j hj => lkd_o (by omega))
      · rw [hnd_g h h2, Wt_hnd hd n _ (lkg_Inv (o := o) hd (by omega) I h2), Wt_lkg hd (by omega) I]
theorem Wt_hA : ∀ (n : Nat) (f : Int → Int), n ≤ 3 → Inv f → Wt (hA n f) = Wt f
  | 0, f, _, _ => rfl
  | n + 1, f, h, I => by
    show Wt (hA n (hnD f (n : Int))) = _
    have I1 : Inv (hnD f (n : Int)) := (hnd_Inv (d := n) (o := f 9) (by omega) _ f I).1
    rw [Wt_hA n _ (by omega) I1]
    exact Wt_hnd (by omega) _ f I
theorem Wt_tn1 {f : Int → Int} (I : Inv f) : Wt (tn1 f) = Wt f := by
  rw [tn1_eq, Wt_o (f := dB 3 0 (hA 3 f)) (fun j hj => us_n (by omega)), Wt_o (f := hA 3 f) (fun j hj => (dB_Inv 3 0 (hA 3 f) (by omega) (by omega) (hA_Inv 3 f (by omega) I).1).2 j (by omega)), Wt_hA 3 f (by omega) I]
abbrev C_X4_makeTurn : Ct := (1, true, fun as M => ∃ (a : Nat), as = [wR a] ∧ (SI M a), fun as M x M' => ∀ (a : Nat), as = [wR a] → (tn1 (M 200) 8 + tn1 (M 200) 9 - (M 200 8 + M 200 9) = x ∧ RelS M' a (tn1 (M 200)) ∧ FrS M M' a))
def sx_X4_makeTurn : Sx := (tb_X4_makeTurn, fdX4, kLX4, kIX4, sgX4, ntX4, [(98, (4, C_X4_waitingTrunks)), (101, (4, C_X4_actAtTop)), (104, (4, C_X4_actBelowTop)), (107, (4, C_X4_takeDelays))], 1)
set_option maxRecDepth 100000 in
set_option maxHeartbeats 1000000 in
theorem ok_X4_makeTurn (L : Nat) (scr : Int → Int) (a : Nat) (M : Mem) (hp : SI M a) : Runs sx_X4_makeTurn L (xcF scr) (fun x M' => tn1 (M 200) 8 + tn1 (M 200) 9 - (M 200 8 + M 200 9) = x ∧ RelS M' a (tn1 (M 200)) ∧ FrS M M' a) 0 [wR a, none, none] [] M := by
  obtain ⟨hst, hr, I⟩ := hp
  have hb := id hst
  unfold isSt at hb
  have d0 : (0 : Int) ≤ 0 ∧ (0 : Int) < 3 := by omega
  have d1 : (0 : Int) ≤ 1 ∧ (1 : Int) < 3 := by omega
  have d2 : (0 : Int) ≤ 2 ∧ (2 : Int) < 3 := by omega
  have w0 : M (a + 5) 1 = M 200 27 := hr.wa d0
  have w1 : M (a + 7) 1 = M 200 31 := hr.wa d1
  have w2 : M (a + 9) 1 = M 200 35 := hr.wa d2
  have hW := Wt_tn1 I
  unfold Wt at hW
  have I1 := (hnd_Inv (d := 2) (o := M 200 9) d2 (M 200 (26 + 4 * 2)).toNat (M 200) I).1
  have I1 : Inv (hnD (M 200) 2) := I1
  have I2 := (hnd_Inv (d := 1) (o := hnD (M 200) 2 9) d1 (hnD (M 200) 2 (26 + 4 * 1)).toNat _ I1).1
  have I2 : Inv (hnD (hnD (M 200) 2) 1) := I2
  have I3 := (hnd_Inv (d := 0) (o := hnD (hnD (M 200) 2) 1 9) d0 (hnD (hnD (M 200) 2) 1 (26 + 4 * 0)).toNat _ I2).1
  have I3 : Inv (hA 3 (M 200)) := I3
  refine R_aload_n (q := 1) (i := 0) rfl rfl rfl rfl ?_
  refine R_cV0I (q := 4) (ci := 4) (C := C_X4_waitingTrunks) rfl rfl rfl rfl rfl ⟨_, rfl, hst⟩ rfl (lay0 hst) (by omega) (fun x M' hc => ?_)
  replace hc := hc _ rfl
  obtain ⟨rfl, rfl⟩ := hc
  refine R_istore_n (q := 5) (i := 1) rfl rfl rfl rfl ?_
  refine R_aload_n (q := 6) (i := 0) rfl rfl rfl rfl ?_
  refine R_cV0N (q := 9) (ci := 4) (C := C_X4_actAtTop) rfl rfl rfl rfl rfl ⟨_, rfl, ⟨hst, hr, I⟩⟩ rfl (lay0 hst) (by omega) (fun M' hc => ?_)
  replace hc := hc _ rfl
  obtain ⟨r1, f1⟩ := hc
  generalize M' = N1 at r1 f1 ⊢
  refine R_iconst (q := 10) rfl rfl ?_
  refine R_istore_n (q := 11) (i := 2) rfl rfl rfl rfl ?_
  refine R_iload_n (q := 12) (i := 2) rfl rfl rfl rfl ?_
  refine R_if_lt (q := 15) (tgt := 26) rfl rfl (by decide) (by omega) (fun h12 => ?_) (fun h12 => ?_)
  · omega
  · refine R_aload_n (q := 16) (i := 0) rfl rfl rfl rfl ?_
    refine R_iload_n (q := 17) (i := 2) rfl rfl rfl rfl ?_
    refine R_gh (hnD (M 200) 2) ?_
    refine R_cV1N (q := 20) (ci := 4) (C := C_X4_actBelowTop) rfl rfl rfl rfl rfl ⟨_, _, rfl, ⟨⟨hst, r1.gh hst, I1⟩, by omega, by omega⟩⟩ rfl (lay0 hst) (by omega) (fun M' hc => ?_)
    replace hc := hc _ _ rfl
    obtain ⟨r2, f2⟩ := hc
    simp only [gho_g] at r2
    have f2 := f1.tr f2.gh
    generalize M' = N2 at r2 f2 ⊢
    refine R_iinc (q := 23) rfl rfl rfl rfl ?_
    refine R_goto (q := 26) (tgt := 11) rfl rfl (by decide) ?_
    refine R_iload_n (q := 12) (i := 2) rfl rfl rfl rfl ?_
    refine R_if_lt (q := 15) (tgt := 26) rfl rfl (by decide) (by omega) (fun h12 => ?_) (fun h12 => ?_)
    · omega
    · refine R_aload_n (q := 16) (i := 0) rfl rfl rfl rfl ?_
      refine R_iload_n (q := 17) (i := 2) rfl rfl rfl rfl ?_
      refine R_gh (hnD (hnD (M 200) 2) 1) ?_
      refine R_cV1N (q := 20) (ci := 4) (C := C_X4_actBelowTop) rfl rfl rfl rfl rfl ⟨_, _, rfl, ⟨⟨hst, r2.gh hst, I2⟩, by omega, by omega⟩⟩ rfl (lay0 hst) (by omega) (fun M' hc => ?_)
      replace hc := hc _ _ rfl
      obtain ⟨r3, f3⟩ := hc
      simp only [gho_g] at r3
      have r3 : RelS M' a (hA 3 (M 200)) := r3
      have f3 := f2.tr f3.gh
      generalize M' = N3 at r3 f3 ⊢
      refine R_iinc (q := 23) rfl rfl rfl rfl ?_
      refine R_goto (q := 26) (tgt := 11) rfl rfl (by decide) ?_
      refine R_iload_n (q := 12) (i := 2) rfl rfl rfl rfl ?_
      refine R_if_lt (q := 15) (tgt := 26) rfl rfl (by decide) (by omega) (fun h12 => ?_) (fun h12 => ?_)
      · refine R_aload_n (q := 27) (i := 0) rfl rfl rfl rfl ?_
        refine R_gh (hA 3 (M 200)) ?_
        refine R_cV0N (q := 30) (ci := 4) (C := C_X4_takeDelays) rfl rfl rfl rfl rfl ⟨_, rfl, ⟨hst, r3.gh hst, I3⟩⟩ rfl (lay0 hst) (by omega) (fun M' hc => ?_)
        replace hc := hc _ rfl
        obtain ⟨r4, f4⟩ := hc
        simp only [gho_g] at r4
        have f4 := f3.tr f4.gh
        generalize M' = N4 at r4 f4 ⊢
        have e6 := r4.tm
        have r5 := r4.up 6 (x := dB 3 0 (hA 3 (M 200)) 6 + 1) (by unfold Pv; omega) (by omega) rfl rfl (en_n (nP (by omega)))
        rw [← tn1_eq] at r5
        have r5 : RelS (upM N4 a 5 (dB 3 0 (hA 3 (M 200)) 6 + 1)) a (tn1 (M 200)) := r5
        rw [← e6] at r5
        have f5 : FrS M (upM N4 a 5 (N4 a 5 + 1)) a := f4.up (by omega) (by omega)
        have z0 : upM N4 a 5 (N4 a 5 + 1) (a + 5) 1 = tn1 (M 200) 27 := r5.wa d0
        have z1 : upM N4 a 5 (N4 a 5 + 1) (a + 7) 1 = tn1 (M 200) 31 := r5.wa d1
        have z2 : upM N4 a 5 (N4 a 5 + 1) (a + 9) 1 = tn1 (M 200) 35 := r5.wa d2
        refine R_aload_n (q := 31) (i := 0) rfl rfl rfl rfl ?_
        refine R_dup (q := 32) rfl rfl rfl ?_
        refine R_getI (q := 35) (k1 := 5) rfl rfl rfl (lay0 hst) rfl (by omega) rfl ?_
        refine R_iconst (q := 36) rfl rfl ?_
        refine R_iadd (q := 37) rfl rfl ?_
        refine R_putI (q := 40) (k1 := 5) rfl rfl rfl (lay0 hst) rfl (by omega) rfl rfl rfl rfl ?_
        refine R_iload_n (q := 41) (i := 1) rfl rfl rfl rfl ?_
        refine R_aload_n (q := 42) (i := 0) rfl rfl rfl rfl ?_
        refine R_cV0I (q := 45) (ci := 4) (C := C_X4_waitingTrunks) rfl rfl rfl rfl rfl ⟨_, rfl, hst⟩ rfl (lay0 hst) (by omega) (fun x M' hc => ?_)
        replace hc := hc _ rfl
        obtain ⟨rfl, rfl⟩ := hc
        refine R_isub (q := 46) rfl rfl ?_
        refine R_ret rfl (Or.inl rfl) ?_
        exact ⟨by omega, r5, f5⟩
      · omega
set_option maxRecDepth 100000 in
theorem mt_X4_makeTurn : MtOK yX4_makeTurn cX4_makeTurn 3 (some .int) 4 C_X4_makeTurn := by
  refine mt_of sx_X4_makeTurn (by decide +kernel) (Or.inl ⟨rfl, rfl, rfl⟩) (by decide +kernel) fdX4_ok kLX4_ok kIX4_ok sgX4_ok ntX4_ok
    (all_cons (clokV mt_X4_waitingTrunks rfl (GT_at 412 (by decide +kernel) (by decide +kernel)) (GT_at 12 (by decide +kernel) (by decide +kernel)) (GT_at 244 (by decide +kernel) (by decide +kernel)) (by decide +kernel) (by decide) (GT_at 242 (by decide +kernel) (by decide +kernel)) (GT_at 243 (by decide +kernel) (by decide +kernel)) rfl rfl) (all_cons (clokV mt_X4_actAtTop rfl (GT_at 413 (by decide +kernel) (by decide +kernel)) (GT_at 12 (by decide +kernel) (by decide +kernel)) (GT_at 416 (by decide +kernel) (by decide +kernel)) (by decide +kernel) (by decide) (GT_at 415 (by decide +kernel) (by decide +kernel)) (GT_at 3 (by decide +kernel) (by decide +kernel)) rfl rfl) (all_cons (clokV mt_X4_actBelowTop rfl (GT_at 440 (by decide +kernel) (by decide +kernel)) (GT_at 12 (by decide +kernel) (by decide +kernel)) (GT_at 443 (by decide +kernel) (by decide +kernel)) (by decide +kernel) (by decide) (GT_at 442 (by decide +kernel) (by decide +kernel)) (GT_at 6 (by decide +kernel) (by decide +kernel)) rfl rfl) (all_cons (clokV mt_X4_takeDelays rfl (GT_at 448 (by decide +kernel) (by decide +kernel)) (GT_at 12 (by decide +kernel) (by decide +kernel)) (GT_at 451 (by decide +kernel) (by decide +kernel)) (by decide +kernel) (by decide) (GT_at 450 (by decide +kernel) (by decide +kernel)) (GT_at 8 (by decide +kernel) (by decide +kernel)) rfl rfl) (all_nil))))) ?_ ?_
  · rintro as M - ⟨a, rfl, hp⟩
    exact Nat.le_of_ble_eq_true rfl
  · rintro L scr as M - ⟨a, rfl, hp⟩
    exact Runs.mono (fun x M' h _ e => by cases e; exact h) (ok_X4_makeTurn L scr a M hp)
abbrev C_X4_makeTurns : Ct := (2, true, fun as M => ∃ (a : Nat) (n : Int), as = [wR a, wI n] ∧ (SI M a ∧ 0 ≤ n ∧ n ≤ 200), fun as M x M' => ∀ (a : Nat) (n : Int), as = [wR a, wI n] → (psn n.toNat (M 200) = x ∧ RelS M' a (tnN n.toNat (M 200)) ∧ FrS M M' a))
def sx_X4_makeTurns : Sx := (tb_X4_makeTurns, fdX4, kLX4, kIX4, sgX4, ntX4, [(94, (4, C_X4_makeTurn))], 1)
set_option maxRecDepth 100000 in
set_option maxHeartbeats 1000000 in
theorem ok_X4_makeTurns (L : Nat) (scr : Int → Int) (a : Nat) (n : Int) (M : Mem) (hp : SI M a ∧ 0 ≤ n ∧ n ≤ 200) : Runs sx_X4_makeTurns L (xcF scr) (fun x M' => psn n.toNat (M 200) = x ∧ RelS M' a (tnN n.toNat (M 200)) ∧ FrS M M' a) 0 [wR a, wI n, none, none] [] M := by
  obtain ⟨⟨hst, hr, I⟩, n0, n1⟩ := hp
  have hb := id hst
  unfold isSt at hb
  have L1 : ∀ (m : Nat) (k : Int) (N : Mem) (g : Int → Int), 0 ≤ k → k + m = n → RelS N a g → Inv g → FrS M N a → tnN m g = tnN n.toNat (M 200) →
      Runs sx_X4_makeTurns L (xcF scr) (fun x M' => psn n.toNat (M 200) = x ∧ RelS M' a (tnN n.toNat (M 200)) ∧ FrS M M' a) 4 [wR a, wI n, wI (g 8 + g 9 - (M 200 8 + M 200 9)), wI k] [] N := by
    intro m
    induction m with
    | zero =>
      intro k N g k0 hk r1 I1 f1 hR
      have hR : g = tnN n.toNat (M 200) := hR
      refine R_iload_n (q := 5) (i := 3) rfl rfl rfl rfl ?_
      refine R_iload_n (q := 6) (i := 1) rfl rfl rfl rfl ?_
      refine R_icmp_ge (q := 9) (tgt := 22) rfl rfl (by decide) (by omega) (by omega) (fun h6 => ?_) (fun h6 => ?_)
      · refine R_iload_n (q := 23) (i := 2) rfl rfl rfl rfl ?_
        refine R_ret rfl (Or.inl rfl) ?_
        refine ⟨?_, by rw [← hR]; exact r1, f1⟩
        unfold psn
        rw [← hR]
      · omega
    | succ m ih =>
      intro k N g k0 hk r1 I1 f1 hR
      refine R_iload_n (q := 5) (i := 3) rfl rfl rfl rfl ?_
      refine R_iload_n (q := 6) (i := 1) rfl rfl rfl rfl ?_
      refine R_icmp_ge (q := 9) (tgt := 22) rfl rfl (by decide) (by omega) (by omega) (fun h6 => ?_) (fun h6 => ?_)
      · omega
      · refine R_iload_n (q := 10) (i := 2) rfl rfl rfl rfl ?_
        refine R_aload_n (q := 11) (i := 0) rfl rfl rfl rfl ?_
        refine R_gh (g) ?_
        refine R_cV0I (q := 14) (ci := 4) (C := C_X4_makeTurn) rfl rfl rfl rfl rfl ⟨_, rfl, ⟨hst, r1.gh hst, I1⟩⟩ rfl (lay0 hst) (by omega) (fun x M' hc => ?_)
        replace hc := hc _ rfl
        obtain ⟨hx, r2, f2⟩ := hc
        simp only [gho_g] at r2 hx
        have f2 := f1.tr f2.gh
        refine R_iadd (q := 15) rfl rfl ?_
        refine R_istore_n (q := 16) (i := 2) rfl rfl rfl rfl ?_
        refine R_iinc (q := 19) rfl rfl rfl rfl ?_
        refine R_goto (q := 22) (tgt := 4) rfl rfl (by decide) ?_
        rw [show g 8 + g 9 - (M 200 8 + M 200 9) + x = tn1 g 8 + tn1 g 9 - (M 200 8 + M 200 9) by omega]
        exact ih (k + 1) _ _ (by omega) (by omega) r2 (tn1_Inv I1).1 f2 hR
  refine R_iconst (q := 1) rfl rfl ?_
  refine R_istore_n (q := 2) (i := 2) rfl rfl rfl rfl ?_
  refine R_iconst (q := 3) rfl rfl ?_
  refine R_istore_n (q := 4) (i := 3) rfl rfl rfl rfl ?_
  rw [show (0 : Int) = M 200 8 + M 200 9 - (M 200 8 + M 200 9) by omega]
  have := L1 n.toNat 0 M (M 200) (by omega) (by omega) hr I FrS.rf rfl
  rw [show (0 : Int) = M 200 8 + M 200 9 - (M 200 8 + M 200 9) by omega] at this
  exact this
set_option maxRecDepth 100000 in
theorem mt_X4_makeTurns : MtOK yX4_makeTurns cX4_makeTurns 4 (some .int) 5 C_X4_makeTurns := by
  refine mt_of sx_X4_makeTurns (by decide +kernel) (Or.inl ⟨rfl, rfl, rfl⟩) (by decide +kernel) fdX4_ok kLX4_ok kIX4_ok sgX4_ok ntX4_ok
    (all_cons (clokV mt_X4_makeTurn rfl (GT_at 408 (by decide +kernel) (by decide +kernel)) (GT_at 12 (by decide +kernel) (by decide +kernel)) (GT_at 411 (by decide +kernel) (by decide +kernel)) (by decide +kernel) (by decide) (GT_at 409 (by decide +kernel) (by decide +kernel)) (GT_at 410 (by decide +kernel) (by decide +kernel)) rfl rfl) (all_nil)) ?_ ?_
  · rintro as M - ⟨a, n, rfl, hp⟩
    exact Nat.le_of_ble_eq_true rfl
  · rintro L scr as M - ⟨a, n, rfl, hp⟩
    exact Runs.mono (fun x M' h _ _ e => by cases e; exact h) (ok_X4_makeTurns L scr a n M hp)
