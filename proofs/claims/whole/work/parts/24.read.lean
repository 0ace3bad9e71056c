/-- the trunk that comes -/
def adF (f : Int → Int) (ct up lo tr : Int) : Int → Int := fun j =>
  if j = 7 then f 7 + 1 else if j = 86 + 9 * f 7 then ct else if j = 87 + 9 * f 7 then up else if j = 88 + 9 * f 7 then lo else if j = 89 + 9 * f 7 then tr else if j = 92 + 9 * f 7 then f 6 else if 90 + 9 * f 7 ≤ j ∧ j ≤ 94 + 9 * f 7 then 0 else f j
def adm (f : Int → Int) (ct up lo tr : Int) : Int → Int := jn (adF f ct up lo tr) 0 (f 7)
theorem flt_ok {c : Int → Int} {n : Int} (h : flt c n = -6) : (0 < n ∧ 48 ≤ c 0 ∧ c 0 ≤ 52) ∧ (1 < n ∧ c 1 = 58) ∧ (r1 c n).1 = 1 ∧ ((r1 c n).2.1 < n ∧ c (r1 c n).2.1 = 47) ∧ (r2 c n).1 = 1 ∧ (((r2 c n).2.1 < n ∧ c (r2 c n).2.1 = 61 ∧ (r3 c n).1 = 1 ∧ (r3 c n).2.1 = n) ∨ (r2 c n).2.1 = n) := by
  unfold flt at h
  by_cases HA : 0 < n ∧ 48 ≤ c 0 ∧ c 0 ≤ 52
  · rw [if_neg (not_not_intro HA)] at h
    by_cases HB : 1 < n ∧ c 1 = 58
    · rw [if_neg (not_not_intro HB)] at h
      have b1 := rdp_bd (c := c) (n := n) 6 2 97 0 (by omega)
      rw [r1_eq] at b1
      by_cases HR : (r1 c n).1 = 0
      · rw [if_pos HR] at h
        omega
      · rw [if_neg HR] at h
        by_cases HC : (r1 c n).2.1 < n ∧ c (r1 c n).2.1 = 47
        · rw [if_neg (not_not_intro HC)] at h
          have b2 := rdp_bd (c := c) (n := n) 6 ((r1 c n).2.1 + 1) 97 0 (by omega)
          rw [r2_eq] at b2
          by_cases HS : (r2 c n).1 = 0
          · rw [if_pos HS] at h
            omega
          · rw [if_neg HS] at h
            refine ⟨HA, HB, by omega, HC, by omega, ?_⟩
            by_cases HE : (r2 c n).2.1 < n ∧ c (r2 c n).2.1 = 61
            · rw [if_pos HE] at h
              have b3 := rdp_bd (c := c) (n := n) 6 ((r2 c n).2.1 + 1) 97 0 (by omega)
              rw [r3_eq] at b3
              by_cases HT : (r3 c n).1 = 0
              · rw [if_pos HT] at h
                omega
              · rw [if_neg HT] at h
                by_cases HN : (r3 c n).2.1 = n
                · exact Or.inl ⟨HE.1, HE.2, by omega, HN⟩
                · rw [if_neg HN] at h
                  omega
            · rw [if_neg HE] at h
              by_cases HN : (r2 c n).2.1 = n
              · exact Or.inr HN
              · rw [if_neg HN] at h
                omega
        · rw [if_pos HC] at h
          omega
    · rw [if_pos HB] at h
      omega
  · rw [if_pos HA] at h
    omega
def zr (g : Int → Int) (p k : Int) : Int → Int := fun j => if p ≤ j ∧ j < p + k then 0 else g j
theorem zr_s {g : Int → Int} {p k : Int} (hk : 0 ≤ k) : us (zr g p k) (p + k) 0 = zr g p (k + 1) := by
  funext j
  unfold us zr
  by_cases e : j = p + k
  · rw [if_pos e, if_pos (by omega)]
  · rw [if_neg e]
    by_cases z : p ≤ j ∧ j < p + k
    · rw [if_pos z, if_pos (by omega)]
    · rw [if_neg z, if_neg (by omega)]
theorem zr_0 {g : Int → Int} {p : Int} : zr g p 0 = g := by
  funext j
  unfold zr
  rw [if_neg (by omega)]
def adC (g : Int → Int) (t ct up lo tr : Int) : Int → Int := us (us (us (us (us (us (zr g (86 + 9 * t) 9) (86 + 9 * t) ct) (87 + 9 * t) up) (89 + 9 * t) tr) (88 + 9 * t) lo) (92 + 9 * t) (g 6)) 7 (t + 1)
theorem adC_eq {g : Int → Int} {t ct up lo tr : Int} (ht : 0 ≤ t) (h7 : g 7 = t) : adC g t ct up lo tr = adF g ct up lo tr := by
  funext j
  unfold adC adF us zr
  rw [h7]
  repeat' split
  all_goals first | rfl | omega
theorem sp_up {M2 : Mem} {h : Int → Int} {i j v : Int} (e : M2 12 = h) (hi : i = j) : upM M2 12 i v = mr 0 M2 (us h j v) := by
  rw [up_sta, ← mr_0, e, hi]
theorem mr_Sp {M M' : Mem} {g : Int → Int} (h : Sp (mr 0 M g) M') : M' 12 = g := by
  rw [h.2 12 (by decide), mr_0, sta_12]
abbrev C_X7_read : Ct := (1, true, fun as M => ∃ (o : Nat), as = [wR o] ∧ (o = 11 ∧ PdM M ∧ Inv (M 12) ∧ 0 ≤ M 11 1 ∧ M 11 1 ≤ 4), fun as M x M' => ∀ (o : Nat), as = [wR o] → ((flt (M 14) (M 11 4) ≠ -6 ∧ x = -3 ∧ Sp M M') ∨ (flt (M 14) (M 11 4) = -6 ∧ (M 12 27 + M 12 31 + M 12 35 = 16 ∨ M 12 7 = 64) ∧ x = -4 ∧ Sp M M') ∨ (flt (M 14) (M 11 4) = -6 ∧ ¬ (M 12 27 + M 12 31 + M 12 35 = 16 ∨ M 12 7 = 64) ∧ x = M 12 7 ∧ (∃ g, Wn g (M 12) ∧ Chg M M' (adm g (M 14 0 - 48) (r1 (M 14) (M 11 4)).2.2 (r2 (M 14) (M 11 4)).2.2 (pTr (M 14) (M 11 4)))) ∧ Fr M M' ∧ M' 11 4 = 0)))
def sx_X7_read : Sx := (tb_X7_read, fdX7, kLX7, kIX7, sgX7, ntX7, [(132, (7, C_X7_fault)), (136, (7, C_X7_waiting)), (32, (7, C_X7_changes)), (39, (9, C_X7_trunkAt)), (142, (7, C_X7_readsPaper)), (76, (7, C_X7_joins))], 1)
set_option maxRecDepth 100000 in
set_option maxHeartbeats 1000000 in
theorem ok_X7_read (L : Nat) (scr : Int → Int) (o : Nat) (M : Mem) (hp : o = 11 ∧ PdM M ∧ Inv (M 12) ∧ 0 ≤ M 11 1 ∧ M 11 1 ≤ 4) : Runs sx_X7_read L (xcF scr) (fun x M' => (flt (M 14) (M 11 4) ≠ -6 ∧ x = -3 ∧ Sp M M') ∨ (flt (M 14) (M 11 4) = -6 ∧ (M 12 27 + M 12 31 + M 12 35 = 16 ∨ M 12 7 = 64) ∧ x = -4 ∧ Sp M M') ∨ (flt (M 14) (M 11 4) = -6 ∧ ¬ (M 12 27 + M 12 31 + M 12 35 = 16 ∨ M 12 7 = 64) ∧ x = M 12 7 ∧ (∃ g, Wn g (M 12) ∧ Chg M M' (adm g (M 14 0 - 48) (r1 (M 14) (M 11 4)).2.2 (r2 (M 14) (M 11 4)).2.2 (pTr (M 14) (M 11 4)))) ∧ Fr M M' ∧ M' 11 4 = 0)) 0 [wR o, none, none, none] [] M := by
  obtain ⟨rfl, pd, I, hs⟩ := hp
  have p60 := pd.1
  have i7 := I.2.1
  have l0 := I.le (d := 0) (by omega) (by omega)
  have l1 := I.le (d := 1) (by omega) (by omega)
  have l2 := I.le (d := 2) (by omega) (by omega)
  have m0 : M 12 (27 + 4 * 0) = M 12 27 := rfl
  have m1 : M 12 (27 + 4 * 1) = M 12 31 := rfl
  have m2 : M 12 (27 + 4 * 2) = M 12 35 := rfl
  have i16 := I.2.2.2.1
  have fb : flt (M 14) (M 11 4) = -6 ∨ (0 ≤ flt (M 14) (M 11 4) ∧ flt (M 14) (M 11 4) ≤ 60) := by
    unfold flt
    have b1 := fun (h : 1 < M 11 4) => rdp_bd (c := M 14) (n := M 11 4) 6 2 97 0 (by omega)
    have b2 := fun (h : (r1 (M 14) (M 11 4)).2.1 < M 11 4) => rdp_bd (c := M 14) (n := M 11 4) 6 ((r1 (M 14) (M 11 4)).2.1 + 1) 97 0 (by omega)
    have b3 := fun (h : (r2 (M 14) (M 11 4)).2.1 < M 11 4) => rdp_bd (c := M 14) (n := M 11 4) 6 ((r2 (M 14) (M 11 4)).2.1 + 1) 97 0 (by omega)
    rw [r1_eq] at b1
    rw [r2_eq] at b2
    rw [r3_eq] at b3
    split
    · omega
    · split
      · omega
      · rename_i h2
        have h2 := Classical.not_not.mp h2
        have b1 := b1 h2.1
        split
        · omega
        · split
          · omega
          · rename_i h4
            have h4 := Classical.not_not.mp h4
            have b2 := b2 h4.1
            split
            · omega
            · split
              · rename_i h6
                have b3 := b3 h6.1
                split
                · omega
                · split <;> omega
              · split <;> omega
  by_cases hf : flt (M 14) (M 11 4) = -6
  · by_cases hq : M 12 27 + M 12 31 + M 12 35 = 16 ∨ M 12 7 = 64
    · refine R_aload_n (q := 1) (i := 0) rfl rfl rfl rfl ?_
      refine R_cV0I (q := 4) (ci := 7) (C := C_X7_fault) rfl rfl rfl rfl rfl ⟨_, rfl, ⟨rfl, pd⟩⟩ rfl rfl (by omega) (fun x M' hc => ?_)
      replace hc := hc _ rfl
      obtain ⟨rfl, S1⟩ := hc
      have t4 := S1.1 4 (by omega) (by omega)
      have e12 := S1.2 12 (by decide)
      refine R_bipush (q := 6) rfl rfl (by decide) ?_
      refine R_icmp_eq (q := 9) (tgt := 12) rfl rfl (by decide) (by omega) (by omega) (fun h6 => ?_) (fun h6 => ?_)
      · refine R_aload_n (q := 13) (i := 0) rfl rfl rfl rfl ?_
        refine R_cV0I (q := 16) (ci := 7) (C := C_X7_waiting) rfl rfl rfl rfl rfl ⟨_, rfl, rfl⟩ rfl rfl (by omega) (fun x M' hc => ?_)
        replace hc := hc _ rfl
        rw [e12] at hc
        obtain ⟨rfl, rfl⟩ := hc
        refine R_bipush (q := 18) rfl rfl (by decide) ?_
        refine R_icmp_eq (q := 21) (tgt := 33) rfl rfl (by decide) (by omega) (by omega) (fun h18 => ?_) (fun h18 => ?_)
        · refine R_bipush (q := 35) rfl rfl (by decide) ?_
          refine R_ret rfl (Or.inl rfl) ?_
          exact Or.inr (Or.inl ⟨hf, hq, rfl, S1⟩)
        · refine R_aload_n (q := 22) (i := 0) rfl rfl rfl rfl ?_
          refine R_getR (q := 25) rfl rfl rfl rfl rfl (by omega) ?_
          refine R_bipush (q := 27) rfl rfl (by decide) ?_
          refine R_iald (q := 28) (v := M 12 7) rfl rfl rfl (by omega) (by omega) (by rw [e12]) ?_
          refine R_bipush (q := 30) rfl rfl (by decide) ?_
          refine R_icmp_ne (q := 33) (tgt := 36) rfl rfl (by decide) (by omega) (by omega) (fun h30 => ?_) (fun h30 => ?_)
          · omega
          · refine R_bipush (q := 35) rfl rfl (by decide) ?_
            refine R_ret rfl (Or.inl rfl) ?_
            exact Or.inr (Or.inl ⟨hf, hq, rfl, S1⟩)
      · exact absurd hf h6
    · obtain ⟨q1, q2, q3, q4, q5, q6⟩ := flt_ok hf
      have b1 := rdp_bd (c := M 14) (n := M 11 4) 6 2 97 0 (by omega)
      have b2 := rdp_bd (c := M 14) (n := M 11 4) 6 ((r1 (M 14) (M 11 4)).2.1 + 1) 97 0 (by omega)
      rw [r1_eq] at b1
      rw [r2_eq] at b2
      have hlt : M 12 7 < 64 := by omega
      have pz1 := rdp_pz (c := M 14) (n := M 11 4) 6 2 97 0 (by omega) Pz_0
      obtain ⟨ct, hct⟩ : ∃ ct, ct = M 14 0 - 48 := ⟨_, rfl⟩
      obtain ⟨up, hup⟩ : ∃ up, up = (r1 (M 14) (M 11 4)).2.2 := ⟨_, rfl⟩
      obtain ⟨lo, hlo⟩ : ∃ lo, lo = (r2 (M 14) (M 11 4)).2.2 := ⟨_, rfl⟩
      obtain ⟨tr, htr⟩ : ∃ tr, tr = pTr (M 14) (M 11 4) := ⟨_, rfl⟩
      have LF : ∀ (M1 : Mem) (t : Int), (0 ≤ t ∧ t < 64) → M1 12 7 = t → M1 14 = M 14 → M1 11 4 = M 11 4 → Fr M M1 → Chg M M1 (M 12) →
          ∀ (x3 : PV), Runs sx_X7_read L (xcF scr) (fun x M' => x = t ∧ (∃ g, Wn g (M 12) ∧ Chg M M' (adm g ct up lo tr)) ∧ Fr M M' ∧ M' 11 4 = 0) 77 [wR 11, wI t, wI (0 + 86 + 9 * t), x3] [] (mr 0 M1 (zr (M1 12) (86 + 9 * t) 9)) := by
        intro M1 t ht g7 f14 f4 hFr hC x3
        have fin : ∀ (M9 : Mem) (tr' : Int), tr' = tr → M9 12 = us (us (us (us (zr (M1 12) (86 + 9 * t) 9) (86 + 9 * t) ct) (87 + 9 * t) up) (89 + 9 * t) tr') (88 + 9 * t) lo → M9 11 1 = M1 11 1 → (∀ r, r ≠ 11 → r ≠ 12 → M9 r = M1 r) →
            Runs sx_X7_read L (xcF scr) (fun x M' => x = t ∧ (∃ g, Wn g (M 12) ∧ Chg M M' (adm g ct up lo tr)) ∧ Fr M M' ∧ M' 11 4 = 0) 191 [wR 11, wI t, wI (0 + 86 + 9 * t), x3] [] M9 := by
          intro M9 tr' htr' e9 k1 kr
          subst htr'
          have v6 : M9 12 6 = M1 12 6 := by
            rw [e9, us_n (by omega), us_n (by omega), us_n (by omega), us_n (by omega)]
            unfold zr
            rw [if_neg (by omega)]
          have v7 : us (us (us (us (us (zr (M1 12) (86 + 9 * t) 9) (86 + 9 * t) ct) (87 + 9 * t) up) (89 + 9 * t) tr') (88 + 9 * t) lo) (92 + 9 * t) (M1 12 6) 7 = t := by
            rw [us_n (by omega), us_n (by omega), us_n (by omega), us_n (by omega), us_n (by omega)]
            unfold zr
            rw [if_neg (by omega), g7]
          have eA := adC_eq (g := M1 12) (ct := ct) (up := up) (lo := lo) (tr := tr') ht.1 g7
          have o27 : adF (M1 12) ct up lo tr' 27 = M1 12 27 := by
            unfold adF
            rw [if_neg (by omega), if_neg (by omega), if_neg (by omega), if_neg (by omega), if_neg (by omega), if_neg (by omega), if_neg (by omega)]
          have m27 : M1 12 27 = M 12 27 := hC.1 27 (by omega) (by omega)
          refine R_aload_n (q := 192) (i := 0) rfl rfl rfl rfl ?_
          refine R_getR (q := 195) rfl rfl rfl rfl rfl (by omega) ?_
          refine R_iload_n (q := 196) (i := 2) rfl rfl rfl rfl ?_
          refine R_bipush (q := 198) rfl rfl (by decide) ?_
          refine R_iadd (q := 199) rfl rfl ?_
          refine R_aload_n (q := 200) (i := 0) rfl rfl rfl rfl ?_
          refine R_getR (q := 203) rfl rfl rfl rfl rfl (by omega) ?_
          refine R_bipush (q := 205) rfl rfl (by decide) ?_
          refine R_iald (q := 206) (v := M1 12 6) rfl rfl rfl (by omega) (by omega) v6 ?_
          refine R_iast (q := 207) (M2 := mr 0 M9 (us (us (us (us (us (zr (M1 12) (86 + 9 * t) 9) (86 + 9 * t) ct) (87 + 9 * t) up) (89 + 9 * t) tr') (88 + 9 * t) lo) (92 + 9 * t) (M1 12 6))) rfl rfl rfl (by omega) (by omega) (sp_up e9 (by omega)) ?_
          refine R_aload_n (q := 208) (i := 0) rfl rfl rfl rfl ?_
          refine R_getR (q := 211) rfl rfl rfl rfl rfl (by omega) ?_
          refine R_bipush (q := 213) rfl rfl (by decide) ?_
          refine R_dup2 (q := 214) rfl rfl rfl rfl ?_
          refine R_iald (q := 215) (v := t) rfl rfl rfl (by omega) (by omega) (Eq.trans (rdmr (j := 7) (by omega)) v7) ?_
          refine R_iconst (q := 216) rfl rfl ?_
          refine R_iadd (q := 217) rfl rfl ?_
          refine R_iast (q := 218) (M2 := mr 0 M9 (adF (M1 12) ct up lo tr')) rfl rfl rfl (by omega) (by omega) (Eq.trans (upmr (j := 7) (by omega)) (congrArg (mr 0 M9) eA)) ?_
          refine R_aload_n (q := 219) (i := 0) rfl rfl rfl rfl ?_
          refine R_iconst (q := 220) rfl rfl ?_
          refine R_iconst (q := 221) rfl rfl ?_
          refine R_iload_n (q := 222) (i := 1) rfl rfl rfl rfl ?_
          refine R_cV3N (q := 225) (ci := 7) (C := C_X7_joins) rfl rfl rfl rfl rfl ⟨_, _, _, _, rfl, ⟨rfl, by omega, by omega, by rw [sh_mr, show (27 : Int) + 4 * 0 = 27 from rfl, o27, m27]; omega⟩⟩ rfl rfl (by omega) (fun M' hc => ?_)
          replace hc := hc _ _ _ _ rfl
          rw [sh_mr, mr_mr] at hc
          subst hc
          refine R_aload_n (q := 226) (i := 0) rfl rfl rfl rfl ?_
          refine R_iconst (q := 227) rfl rfl ?_
          refine R_putI (q := 230) (k1 := 4) rfl rfl rfl rfl rfl (by omega) rfl rfl rfl rfl ?_
          refine R_iload_n (q := 231) (i := 1) rfl rfl rfl rfl ?_
          refine R_ret rfl (Or.inl rfl) ?_
          have ea : jn (adF (M1 12) ct up lo tr') 0 t = adm (M1 12) ct up lo tr' := by
            unfold adm
            rw [g7]
          have e12' : ∀ i, upM (mr 0 M9 (jn (adF (M1 12) ct up lo tr') 0 t)) 11 4 0 12 i = adm (M1 12) ct up lo tr' i := fun i => by rw [upM_r (by decide), mr_0, sta_12, ea]
          have oo : ∀ j, j < 0 ∨ 662 ≤ j → adm (M1 12) ct up lo tr' j = M1 12 j := by
            intro j hj
            unfold adm jn
            rw [us_n (by omega), us_n (by rw [show (27 : Int) + 4 * 0 = 27 from rfl, o27, m27]; omega)]
            unfold adF
            rw [if_neg (by omega), if_neg (by omega), if_neg (by omega), if_neg (by omega), if_neg (by omega), if_neg (by omega), if_neg (by omega)]
          obtain ⟨c1, c2, c3, c4⟩ := hC
          refine ⟨rfl, ⟨M1 12, c1, fun i a b => e12' i, fun i a b => ?_, ?_, fun j i a b c d => ?_⟩, fun r a b => ?_, upM_s⟩
          · rw [e12', oo i (by omega), c2 i a b]
          · rw [upM_k (by omega), mr_ne (by decide), k1, c3]
          · rw [upM_k (by omega), mr_ne (show (11 : Nat) ≠ 12 by decide), k1] at b
            rw [e12', oo _ (by omega), upM_k (by omega), mr_ne (show (11 : Nat) ≠ 12 by decide), k1, c4 j i a b c d]
          · rw [upM_r a, mr_ne b, kr r a b, hFr r a b]
        obtain ⟨h0, hh0⟩ : ∃ h0, h0 = zr (M1 12) (86 + 9 * t) 9 := ⟨_, rfl⟩
        rw [← hh0] at fin ⊢
        refine R_aload_n (q := 78) (i := 0) rfl rfl rfl rfl ?_
        refine R_getR (q := 81) rfl rfl rfl rfl rfl (by omega) ?_
        refine R_iload_n (q := 82) (i := 2) rfl rfl rfl rfl ?_
        refine R_aload_n (q := 83) (i := 0) rfl rfl rfl rfl ?_
        refine R_getR (q := 86) rfl rfl rfl rfl rfl (by omega) ?_
        refine R_iconst (q := 87) rfl rfl ?_
        refine R_iald (q := 88) (v := M 14 0) rfl rfl rfl (by omega) (by omega) (by rw [mr_ne (by decide), f14]) ?_
        refine R_bipush (q := 90) rfl rfl (by decide) ?_
        refine R_isub (q := 91) rfl rfl ?_
        refine R_iast (q := 92) (M2 := mr 0 M1 (us h0 (86 + 9 * t) ct)) rfl rfl rfl (by omega) (by omega) (by rw [← hct]; exact upmr (j := 86 + 9 * t) (by omega)) ?_
        refine R_aload_n (q := 93) (i := 0) rfl rfl rfl rfl ?_
        refine R_iconst (q := 94) rfl rfl ?_
        refine R_putI (q := 97) (k1 := 5) rfl rfl rfl rfl rfl (by omega) rfl rfl rfl rfl ?_
        generalize hM2 : upM (mr 0 M1 (us h0 (86 + 9 * t) ct)) 11 5 2 = M2
        have a12 : M2 12 = us h0 (86 + 9 * t) ct := by rw [← hM2, upM_r (by decide), mr_0, sta_12]
        have a14 : M2 14 = M 14 := by rw [← hM2, upM_r (by decide), mr_ne (by decide), f14]
        have a4 : M2 11 4 = M 11 4 := by rw [← hM2, upM_k (by omega), mr_ne (by decide), f4]
        have a5 : M2 11 5 = 2 := by rw [← hM2, upM_s]
        have a1 : M2 11 1 = M1 11 1 := by rw [← hM2, upM_k (by omega), mr_ne (by decide)]
        have ar : ∀ r, r ≠ 11 → r ≠ 12 → M2 r = M1 r := fun r x y => by rw [← hM2, upM_r x, mr_ne y]
        have apd : PdM M2 := by
          unfold PdM
          rw [a4, a14]
          exact pd
        refine R_aload_n (q := 98) (i := 0) rfl rfl rfl rfl ?_
        refine R_cV0I (q := 101) (ci := 7) (C := C_X7_readsPaper) rfl rfl rfl rfl rfl ⟨_, rfl, ⟨rfl, apd, by rw [a5]; omega, by rw [a5, a4]; omega⟩⟩ rfl rfl (by omega) (fun x M' hc => ?_)
        replace hc := hc _ rfl
        obtain ⟨hx, s3, h6, Sx⟩ := hc
        rw [a14, a4, a5, r1_eq] at s3 h6
        rw [← hup] at h6
        have b12 : M' 12 = us h0 (86 + 9 * t) ct := (Sx.2 12 (by decide)).trans a12
        have b14 : M' 14 = M 14 := (Sx.2 14 (by decide)).trans a14
        have b4 : M' 11 4 = M 11 4 := (Sx.1 4 (by omega) (by omega)).trans a4
        have b1' : M' 11 1 = M1 11 1 := (Sx.1 1 (by omega) (by omega)).trans a1
        have br : ∀ r, r ≠ 11 → r ≠ 12 → M' r = M1 r := fun r x y => (Sx.2 r x).trans (ar r x y)
        refine R_pop (q := 102) rfl rfl rfl ?_
        refine R_aload_n (q := 103) (i := 0) rfl rfl rfl rfl ?_
        refine R_getR (q := 106) rfl rfl rfl rfl rfl (by omega) ?_
        refine R_iload_n (q := 107) (i := 2) rfl rfl rfl rfl ?_
        refine R_iconst (q := 108) rfl rfl ?_
        refine R_iadd (q := 109) rfl rfl ?_
        refine R_aload_n (q := 110) (i := 0) rfl rfl rfl rfl ?_
        refine R_getI (q := 113) (k1 := 6) rfl rfl rfl rfl rfl (by omega) rfl ?_
        refine R_iast (q := 114) (M2 := mr 0 M' (us (us h0 (86 + 9 * t) ct) (87 + 9 * t) up)) rfl rfl rfl (by omega) (by omega) (by rw [h6]; exact sp_up b12 (by omega)) ?_
        refine R_aload_n (q := 115) (i := 0) rfl rfl rfl rfl ?_
        refine R_getR (q := 118) rfl rfl rfl rfl rfl (by omega) ?_
        refine R_iload_n (q := 119) (i := 2) rfl rfl rfl rfl ?_
        refine R_iconst (q := 120) rfl rfl ?_
        refine R_iadd (q := 121) rfl rfl ?_
        refine R_aload_n (q := 122) (i := 0) rfl rfl rfl rfl ?_
        refine R_getI (q := 125) (k1 := 6) rfl rfl rfl rfl rfl (by omega) rfl ?_
        refine R_iast (q := 126) (M2 := mr 0 M' (us (us (us h0 (86 + 9 * t) ct) (87 + 9 * t) up) (89 + 9 * t) up)) rfl rfl rfl (by omega) (by omega) (by rw [mr_ne (show (11 : Nat) ≠ 12 by decide), h6]; exact upmr (j := 89 + 9 * t) (by omega)) ?_
        refine R_aload_n (q := 127) (i := 0) rfl rfl rfl rfl ?_
        refine R_dup (q := 128) rfl rfl rfl ?_
        refine R_getI (q := 131) (k1 := 5) rfl rfl rfl rfl rfl (by omega) rfl ?_
        refine R_iconst (q := 132) rfl rfl ?_
        refine R_iadd (q := 133) rfl rfl ?_
        refine R_putI (q := 136) (k1 := 5) rfl rfl rfl rfl rfl (by omega) rfl rfl rfl rfl ?_
        generalize hM4 : upM (mr 0 M' (us (us (us h0 (86 + 9 * t) ct) (87 + 9 * t) up) (89 + 9 * t) up)) 11 5 (mr 0 M' (us (us (us h0 (86 + 9 * t) ct) (87 + 9 * t) up) (89 + 9 * t) up) 11 5 + 1) = M4
        have d12 : M4 12 = us (us (us h0 (86 + 9 * t) ct) (87 + 9 * t) up) (89 + 9 * t) up := by rw [← hM4, upM_r (by decide), mr_0, sta_12]
        have d14 : M4 14 = M 14 := by rw [← hM4, upM_r (by decide), mr_ne (by decide), b14]
        have d4 : M4 11 4 = M 11 4 := by rw [← hM4, upM_k (by omega), mr_ne (by decide), b4]
        have d5 : M4 11 5 = (r1 (M 14) (M 11 4)).2.1 + 1 := by rw [← hM4, upM_s, mr_ne (by decide), s3]
        have d1 : M4 11 1 = M1 11 1 := by rw [← hM4, upM_k (by omega), mr_ne (by decide), b1']
        have dr : ∀ r, r ≠ 11 → r ≠ 12 → M4 r = M1 r := fun r x y => by rw [← hM4, upM_r x, mr_ne y, br r x y]
        have dpd : PdM M4 := by
          unfold PdM
          rw [d4, d14]
          exact pd
        refine R_aload_n (q := 137) (i := 0) rfl rfl rfl rfl ?_
        refine R_cV0I (q := 140) (ci := 7) (C := C_X7_readsPaper) rfl rfl rfl rfl rfl ⟨_, rfl, ⟨rfl, dpd, by rw [d5]; omega, by rw [d5, d4]; omega⟩⟩ rfl rfl (by omega) (fun x M' hc => ?_)
        replace hc := hc _ rfl
        obtain ⟨hx, s5, h7, Sy⟩ := hc
        rw [d14, d4, d5, r2_eq] at s5 h7
        rw [← hlo] at h7
        have e12 : M' 12 = us (us (us h0 (86 + 9 * t) ct) (87 + 9 * t) up) (89 + 9 * t) up := (Sy.2 12 (by decide)).trans d12
        have e14 : M' 14 = M 14 := (Sy.2 14 (by decide)).trans d14
        have e4 : M' 11 4 = M 11 4 := (Sy.1 4 (by omega) (by omega)).trans d4
        have e1 : M' 11 1 = M1 11 1 := (Sy.1 1 (by omega) (by omega)).trans d1
        have er : ∀ r, r ≠ 11 → r ≠ 12 → M' r = M1 r := fun r x y => (Sy.2 r x).trans (dr r x y)
        have k5 : mr 0 M' (us (us (us (us h0 (86 + 9 * t) ct) (87 + 9 * t) up) (89 + 9 * t) up) (88 + 9 * t) lo) 11 5 = (r2 (M 14) (M 11 4)).2.1 := by rw [mr_ne (by decide), s5]
        have k4 : mr 0 M' (us (us (us (us h0 (86 + 9 * t) ct) (87 + 9 * t) up) (89 + 9 * t) up) (88 + 9 * t) lo) 11 4 = M 11 4 := by rw [mr_ne (by decide), e4]
        refine R_pop (q := 141) rfl rfl rfl ?_
        refine R_aload_n (q := 142) (i := 0) rfl rfl rfl rfl ?_
        refine R_getR (q := 145) rfl rfl rfl rfl rfl (by omega) ?_
        refine R_iload_n (q := 146) (i := 2) rfl rfl rfl rfl ?_
        refine R_iconst (q := 147) rfl rfl ?_
        refine R_iadd (q := 148) rfl rfl ?_
        refine R_aload_n (q := 149) (i := 0) rfl rfl rfl rfl ?_
        refine R_getI (q := 152) (k1 := 6) rfl rfl rfl rfl rfl (by omega) rfl ?_
        refine R_iast (q := 153) (M2 := mr 0 M' (us (us (us (us h0 (86 + 9 * t) ct) (87 + 9 * t) up) (89 + 9 * t) up) (88 + 9 * t) lo)) rfl rfl rfl (by omega) (by omega) (by rw [h7]; exact sp_up e12 (by omega)) ?_
        refine R_aload_n (q := 154) (i := 0) rfl rfl rfl rfl ?_
        refine R_getI (q := 157) (k1 := 5) rfl rfl rfl rfl rfl (by omega) rfl ?_
        refine R_aload_n (q := 158) (i := 0) rfl rfl rfl rfl ?_
        refine R_getI (q := 161) (k1 := 4) rfl rfl rfl rfl rfl (by omega) rfl ?_
        refine R_icmp_ge (q := 164) (tgt := 191) rfl rfl (by decide) (by omega) (by omega) (fun h161 => ?_) (fun h161 => ?_)
        · have et : up = tr := by
            rw [htr, hup]
            unfold pTr
            rw [if_neg (by omega)]
          exact fin _ up et (by rw [mr_0, sta_12]) (by rw [mr_ne (by decide), e1]) (fun r x y => by rw [mr_ne y, er r x y])
        · refine R_aload_n (q := 165) (i := 0) rfl rfl rfl rfl ?_
          refine R_dup (q := 166) rfl rfl rfl ?_
          refine R_getI (q := 169) (k1 := 5) rfl rfl rfl rfl rfl (by omega) rfl ?_
          refine R_iconst (q := 170) rfl rfl ?_
          refine R_iadd (q := 171) rfl rfl ?_
          refine R_putI (q := 174) (k1 := 5) rfl rfl rfl rfl rfl (by omega) rfl rfl rfl rfl ?_
          generalize hM6 : upM (mr 0 M' (us (us (us (us h0 (86 + 9 * t) ct) (87 + 9 * t) up) (89 + 9 * t) up) (88 + 9 * t) lo)) 11 5 (mr 0 M' (us (us (us (us h0 (86 + 9 * t) ct) (87 + 9 * t) up) (89 + 9 * t) up) (88 + 9 * t) lo) 11 5 + 1) = M6
          have g12 : M6 12 = us (us (us (us h0 (86 + 9 * t) ct) (87 + 9 * t) up) (89 + 9 * t) up) (88 + 9 * t) lo := by rw [← hM6, upM_r (by decide), mr_0, sta_12]
          have g14 : M6 14 = M 14 := by rw [← hM6, upM_r (by decide), mr_ne (by decide), e14]
          have g4 : M6 11 4 = M 11 4 := by rw [← hM6, upM_k (by omega), k4]
          have g5 : M6 11 5 = (r2 (M 14) (M 11 4)).2.1 + 1 := by rw [← hM6, upM_s, k5]
          have g1 : M6 11 1 = M1 11 1 := by rw [← hM6, upM_k (by omega), mr_ne (by decide), e1]
          have gr : ∀ r, r ≠ 11 → r ≠ 12 → M6 r = M1 r := fun r x y => by rw [← hM6, upM_r x, mr_ne y, er r x y]
          have gpd : PdM M6 := by
            unfold PdM
            rw [g4, g14]
            exact pd
          refine R_aload_n (q := 175) (i := 0) rfl rfl rfl rfl ?_
          refine R_cV0I (q := 178) (ci := 7) (C := C_X7_readsPaper) rfl rfl rfl rfl rfl ⟨_, rfl, ⟨rfl, gpd, by rw [g5]; omega, by rw [g5, g4]; omega⟩⟩ rfl rfl (by omega) (fun x M' hc => ?_)
          replace hc := hc _ rfl
          obtain ⟨hx, s7, h8, Sz⟩ := hc
          rw [g14, g4, g5, r3_eq] at s7 h8
          have i12 : M' 12 = us (us (us (us h0 (86 + 9 * t) ct) (87 + 9 * t) up) (89 + 9 * t) up) (88 + 9 * t) lo := (Sz.2 12 (by decide)).trans g12
          have i1 : M' 11 1 = M1 11 1 := (Sz.1 1 (by omega) (by omega)).trans g1
          have ir : ∀ r, r ≠ 11 → r ≠ 12 → M' r = M1 r := fun r x y => (Sz.2 r x).trans (gr r x y)
          refine R_pop (q := 179) rfl rfl rfl ?_
          refine R_aload_n (q := 180) (i := 0) rfl rfl rfl rfl ?_
          refine R_getR (q := 183) rfl rfl rfl rfl rfl (by omega) ?_
          refine R_iload_n (q := 184) (i := 2) rfl rfl rfl rfl ?_
          refine R_iconst (q := 185) rfl rfl ?_
          refine R_iadd (q := 186) rfl rfl ?_
          refine R_aload_n (q := 187) (i := 0) rfl rfl rfl rfl ?_
          refine R_getI (q := 190) (k1 := 6) rfl rfl rfl rfl rfl (by omega) rfl ?_
          refine R_iast (q := 191) (M2 := mr 0 M' (us (us (us (us (us h0 (86 + 9 * t) ct) (87 + 9 * t) up) (89 + 9 * t) up) (88 + 9 * t) lo) (89 + 9 * t) (r3 (M 14) (M 11 4)).2.2)) rfl rfl rfl (by omega) (by omega) (by rw [h8]; exact sp_up i12 (by omega)) ?_
          have et : (r3 (M 14) (M 11 4)).2.2 = tr := by
            rw [htr]
            unfold pTr
            rw [if_pos (by omega)]
          exact fin _ _ et (by rw [mr_0, sta_12, us_c (i := 88 + 9 * t) (j := 89 + 9 * t) (by omega), us_us]) (by rw [mr_ne (by decide), i1]) (fun r x y => by rw [mr_ne y, ir r x y])
      have LZ : ∀ (M1 : Mem) (t : Int) (n : Nat) (k : Int), 0 ≤ k → k + n = 9 → (0 ≤ t ∧ t < 64) → M1 12 7 = t → M1 14 = M 14 → M1 11 4 = M 11 4 → Fr M M1 → Chg M M1 (M 12) →
          Runs sx_X7_read L (xcF scr) (fun x M' => x = t ∧ (∃ g, Wn g (M 12) ∧ Chg M M' (adm g ct up lo tr)) ∧ Fr M M' ∧ M' 11 4 = 0) 56 [wR 11, wI t, wI (0 + 86 + 9 * t), wI k] [] (mr 0 M1 (zr (M1 12) (86 + 9 * t) k)) := by
        intro M1 t n
        induction n with
        | zero =>
          intro k hk hn ht g7 f14 f4 hFr hC
          have hk : k = 9 := by omega
          subst hk
          refine R_iload_n (q := 57) (i := 3) rfl rfl rfl rfl ?_
          refine R_bipush (q := 59) rfl rfl (by decide) ?_
          refine R_icmp_ge (q := 62) (tgt := 77) rfl rfl (by decide) (by omega) (by omega) (fun h59 => ?_) (fun h59 => ?_)
          · exact LF M1 t ht g7 f14 f4 hFr hC _
          · omega
        | succ n ih =>
          intro k hk hn ht g7 f14 f4 hFr hC
          refine R_iload_n (q := 57) (i := 3) rfl rfl rfl rfl ?_
          refine R_bipush (q := 59) rfl rfl (by decide) ?_
          refine R_icmp_ge (q := 62) (tgt := 77) rfl rfl (by decide) (by omega) (by omega) (fun h59 => ?_) (fun h59 => ?_)
          · omega
          · refine R_aload_n (q := 63) (i := 0) rfl rfl rfl rfl ?_
            refine R_getR (q := 66) rfl rfl rfl rfl rfl (by omega) ?_
            refine R_iload_n (q := 67) (i := 2) rfl rfl rfl rfl ?_
            refine R_iload_n (q := 68) (i := 3) rfl rfl rfl rfl ?_
            refine R_iadd (q := 69) rfl rfl ?_
            refine R_iconst (q := 70) rfl rfl ?_
            refine R_iast (q := 71) (M2 := mr 0 M1 (zr (M1 12) (86 + 9 * t) (k + 1))) rfl rfl rfl (by omega) (by omega) (Eq.trans (upmr (j := 86 + 9 * t + k) (by omega)) (congrArg (mr 0 M1) (zr_s hk))) ?_
            refine R_iinc (q := 74) rfl rfl rfl rfl ?_
            refine R_goto (q := 77) (tgt := 56) rfl rfl (by decide) ?_
            exact ih (k + 1) (by omega) (by omega) ht g7 f14 f4 hFr hC
      have hs0 := hs
      suffices hs : Runs sx_X7_read L (xcF scr) (fun x M' => x = M 12 7 ∧ (∃ g, Wn g (M 12) ∧ Chg M M' (adm g ct up lo tr)) ∧ Fr M M' ∧ M' 11 4 = 0) 0 [wR 11, none, none, none] [] M from hs.mono (fun x M' h => Or.inr (Or.inr ⟨hf, hq, h.1, by rw [← hct, ← hup, ← hlo, ← htr]; exact h.2⟩))
      obtain ⟨t, hT⟩ : ∃ t, t = M 12 7 := ⟨_, rfl⟩
      rw [← hT]
      rw [← hT] at hlt i7
      refine R_aload_n (q := 1) (i := 0) rfl rfl rfl rfl ?_
      refine R_cV0I (q := 4) (ci := 7) (C := C_X7_fault) rfl rfl rfl rfl rfl ⟨_, rfl, ⟨rfl, pd⟩⟩ rfl rfl (by omega) (fun x M' hc => ?_)
      replace hc := hc _ rfl
      obtain ⟨rfl, S1⟩ := hc
      have t4 := S1.1 4 (by omega) (by omega)
      have t1 := S1.1 1 (by omega) (by omega)
      have e12 := S1.2 12 (by decide)
      have e14 := S1.2 14 (by decide)
      refine R_bipush (q := 6) rfl rfl (by decide) ?_
      refine R_icmp_eq (q := 9) (tgt := 12) rfl rfl (by decide) (by omega) (by omega) (fun h6 => ?_) (fun h6 => ?_)
      · refine R_aload_n (q := 13) (i := 0) rfl rfl rfl rfl ?_
        refine R_cV0I (q := 16) (ci := 7) (C := C_X7_waiting) rfl rfl rfl rfl rfl ⟨_, rfl, rfl⟩ rfl rfl (by omega) (fun x M' hc => ?_)
        replace hc := hc _ rfl
        rw [e12] at hc
        obtain ⟨rfl, rfl⟩ := hc
        refine R_bipush (q := 18) rfl rfl (by decide) ?_
        refine R_icmp_eq (q := 21) (tgt := 33) rfl rfl (by decide) (by omega) (by omega) (fun h18 => ?_) (fun h18 => ?_)
        · omega
        · refine R_aload_n (q := 22) (i := 0) rfl rfl rfl rfl ?_
          refine R_getR (q := 25) rfl rfl rfl rfl rfl (by omega) ?_
          refine R_bipush (q := 27) rfl rfl (by decide) ?_
          refine R_iald (q := 28) (v := t) rfl rfl rfl (by omega) (by omega) (by rw [e12, hT]) ?_
          refine R_bipush (q := 30) rfl rfl (by decide) ?_
          refine R_icmp_ne (q := 33) (tgt := 36) rfl rfl (by decide) (by omega) (by omega) (fun h30 => ?_) (fun h30 => ?_)
          · refine R_aload_n (q := 37) (i := 0) rfl rfl rfl rfl ?_
            refine R_cV0N (q := 40) (ci := 7) (C := C_X7_changes) rfl rfl rfl rfl rfl ⟨_, rfl, ⟨rfl, by rw [t1]; exact hs0⟩⟩ rfl rfl (by omega) (fun M' hc => ?_)
            replace hc := hc _ rfl
            obtain ⟨⟨c1, c2, c3, c4⟩, hF, hK⟩ := hc
            rw [e12] at c1 c2 c4
            rw [t1] at c3 c4
            have g7 : M' 12 7 = t := (c1 7 (by omega) (by omega)).trans hT.symm
            have f14 : M' 14 = M 14 := (hF 14 (by decide) (by decide)).trans e14
            have f4 : M' 11 4 = M 11 4 := (hK 4 (by omega)).trans t4
            have hFr : Fr M M' := fun r a b => (hF r a b).trans (S1.2 r a)
            refine R_aload_n (q := 41) (i := 0) rfl rfl rfl rfl ?_
            refine R_getR (q := 44) rfl rfl rfl rfl rfl (by omega) ?_
            refine R_bipush (q := 46) rfl rfl (by decide) ?_
            refine R_iald (q := 47) (v := t) rfl rfl rfl (by omega) (by omega) g7 ?_
            refine R_istore_n (q := 48) (i := 1) rfl rfl rfl rfl ?_
            refine R_iconst (q := 49) rfl rfl ?_
            refine R_iload_n (q := 50) (i := 1) rfl rfl rfl rfl ?_
            refine R_cS2I (q := 53) (ci := 9) (C := C_X7_trunkAt) rfl rfl rfl rfl rfl ⟨_, _, rfl, (by first | trivial | assumption | omega)⟩ rfl rfl (fun x M' hc => ?_)
            replace hc := hc _ _ rfl
            try simp only [sh_mr, mr_mr] at hc
            obtain ⟨rfl, rfl⟩ := hc
            refine R_istore_n (q := 54) (i := 2) rfl rfl rfl rfl ?_
            refine R_iconst (q := 55) rfl rfl ?_
            refine R_istore_n (q := 56) (i := 3) rfl rfl rfl rfl ?_
            have z := LZ M' t 9 0 (by omega) rfl ⟨by omega, hlt⟩ g7 f14 f4 hFr ⟨c1, c2, c3, c4⟩
            rw [zr_0, mr_0, sta_self] at z
            exact z
          · omega
      · exact absurd hf h6
  · refine R_aload_n (q := 1) (i := 0) rfl rfl rfl rfl ?_
    refine R_cV0I (q := 4) (ci := 7) (C := C_X7_fault) rfl rfl rfl rfl rfl ⟨_, rfl, ⟨rfl, pd⟩⟩ rfl rfl (by omega) (fun x M' hc => ?_)
    replace hc := hc _ rfl
    obtain ⟨rfl, S1⟩ := hc
    refine R_bipush (q := 6) rfl rfl (by decide) ?_
    refine R_icmp_eq (q := 9) (tgt := 12) rfl rfl (by decide) (by omega) (by omega) (fun h6 => ?_) (fun h6 => ?_)
    · exact absurd h6 hf
    · refine R_bipush (q := 11) rfl rfl (by decide) ?_
      refine R_ret rfl (Or.inl rfl) ?_
      exact Or.inl ⟨hf, rfl, S1⟩
set_option maxRecDepth 100000 in
theorem mt_X7_read : MtOK yX7_read cX7_read 4 (some .int) 4 C_X7_read := by
  refine mt_of sx_X7_read (by decide +kernel) (Or.inl ⟨rfl, rfl, rfl⟩) (by decide +kernel) fdX7_ok kLX7_ok kIX7_ok sgX7_ok ntX7_ok
    (all_cons (clokV mt_X7_fault rfl (GT_at 633 (by decide +kernel) (by decide +kernel)) (GT_at 44 (by decide +kernel) (by decide +kernel)) (GT_at 636 (by decide +kernel) (by decide +kernel)) (by decide +kernel) (by decide) (GT_at 634 (by decide +kernel) (by decide +kernel)) (GT_at 635 (by decide +kernel) (by decide +kernel)) rfl rfl) (all_cons (clokV mt_X7_waiting rfl (GT_at 655 (by decide +kernel) (by decide +kernel)) (GT_at 44 (by decide +kernel) (by decide +kernel)) (GT_at 658 (by decide +kernel) (by decide +kernel)) (by decide +kernel) (by decide) (GT_at 657 (by decide +kernel) (by decide +kernel)) (GT_at 16 (by decide +kernel) (by decide +kernel)) rfl rfl) (all_cons (clokV mt_X7_changes rfl (GT_at 600 (by decide +kernel) (by decide +kernel)) (GT_at 44 (by decide +kernel) (by decide +kernel)) (GT_at 603 (by decide +kernel) (by decide +kernel)) (by decide +kernel) (by decide) (GT_at 602 (by decide +kernel) (by decide +kernel)) (GT_at 11 (by decide +kernel) (by decide +kernel)) rfl rfl) (all_cons (clokS mt_X7_trunkAt (GT_at 659 (by decide +kernel) (by decide +kernel)) (GT_at 44 (by decide +kernel) (by decide +kernel)) (GT_at 661 (by decide +kernel) (by decide +kernel)) (by decide +kernel) (by decide) (GT_at 660 (by decide +kernel) (by decide +kernel))) (all_cons (clokV mt_X7_readsPaper rfl (GT_at 648 (by decide +kernel) (by decide +kernel)) (GT_at 44 (by decide +kernel) (by decide +kernel)) (GT_at 651 (by decide +kernel) (by decide +kernel)) (by decide +kernel) (by decide) (GT_at 650 (by decide +kernel) (by decide +kernel)) (GT_at 15 (by decide +kernel) (by decide +kernel)) rfl rfl) (all_cons (clokV mt_X7_joins rfl (GT_at 662 (by decide +kernel) (by decide +kernel)) (GT_at 44 (by decide +kernel) (by decide +kernel)) (GT_at 665 (by decide +kernel) (by decide +kernel)) (by decide +kernel) (by decide) (GT_at 664 (by decide +kernel) (by decide +kernel)) (GT_at 17 (by decide +kernel) (by decide +kernel)) rfl rfl) (all_nil))))))) ?_ ?_
  · rintro as M - ⟨o, rfl, hp⟩
    exact Nat.le_of_ble_eq_true rfl
  · rintro L scr as M - ⟨o, rfl, hp⟩
    exact Runs.mono (fun x M' h _ e => by cases e; exact h) (ok_X7_read L scr o M hp)
