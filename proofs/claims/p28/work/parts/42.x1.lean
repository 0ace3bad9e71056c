/-! THE CLASS'S OWN METHODS -/
theorem st15 : isSt 15 := by unfold isSt; omega
theorem st37 : isSt 37 := by unfold isSt; omega
theorem Inv_us {f : Int → Int} {p v : Int} (I : Inv f) (hp : 0 ≤ p ∧ p < 6 ∨ 15 ≤ p ∧ p < 26 ∨ p = 26 ∨ p = 30 ∨ p = 34) (hB : Bd (us f p v)) (hC : ∀ e, 0 ≤ e → e < 3 → 0 ≤ us f p v (26 + 4 * e) ∧ us f p v (26 + 4 * e) ≤ 3) : Inv (us f p v) := by
  obtain ⟨iB, i7, iC, i16, iD, iE, iF, g8, g9, g10, g14⟩ := I
  have o : ∀ j, j ≠ p → us f p v j = f j := fun j h => us_n h
  refine ⟨hB, by rw [o 6 (by omega), o 7 (by omega)]; exact i7, fun e a b => ⟨(hC e a b).1, (hC e a b).2, by rw [o _ (by omega)]; exact (iC e a b).2.2⟩, by rw [o 27 (by omega), o 31 (by omega), o 35 (by omega)]; exact i16, fun e p q => ?_, fun e p e' p' q q' hh => ?_, fun t a b => ?_, ?_, ?_, ?_, ?_⟩
  · obtain ⟨a, b, x, y⟩ := q
    rw [o _ (by omega)] at y
    have := iD e p ⟨a, b, x, y⟩
    rw [o (38 + 16 * e + p) (by omega), o 7 (by omega), o (90 + 9 * f (38 + 16 * e + p)) (by omega)]
    exact this
  · obtain ⟨a, b, x, y⟩ := q
    obtain ⟨a', b', x', y'⟩ := q'
    rw [o _ (by omega)] at y y'
    rw [o _ (by omega), o _ (by omega)] at hh
    exact iE e p e' p' ⟨a, b, x, y⟩ ⟨a', b', x', y'⟩ hh
  · rw [o 7 (by omega)] at b
    rw [o _ (by omega), o _ (by omega)]
    obtain ⟨r1, r2, r3⟩ := iF t a b
    refine ⟨r1, r2, fun z => ⟨(r3 z).1, ?_⟩⟩
    obtain ⟨e, p, ⟨x1, x2, x3, x4⟩, h2⟩ := (r3 z).2
    exact ⟨e, p, ⟨x1, x2, x3, by rw [o _ (by omega)]; exact x4⟩, by rw [o _ (by omega)]; exact h2⟩
  · rw [o 8 (by omega), o 7 (by omega), g8]
    exact (cF_same _ (fun t a b => o _ (by omega))).symm
  · rw [o 9 (by omega), o 7 (by omega), g9]
    exact (cF_same _ (fun t a b => o _ (by omega))).symm
  · rw [o 10 (by omega), o 7 (by omega), g10]
    exact (cF_same _ (fun t a b => o _ (by omega))).symm
  · rw [o 14 (by omega), o 7 (by omega), g14]
    exact (cU_same _ (fun t a b => ⟨o _ (by omega), o _ (by omega)⟩)).symm
theorem us_or {f : Int → Int} {p v j : Int} {Q : Int → Prop} (h1 : j = p → Q v) (h2 : Q (f j)) : Q (us f p v j) := by
  unfold us
  split
  · exact h1 (by assumption)
  · exact h2
theorem Inv_set {f : Int → Int} {s v : Int} (I : Inv f) (h : vS s v) : Inv (us f s v) := by
  have hs : 0 ≤ s ∧ s < 6 := by unfold vS at h; omega
  have iC := I.2.2.1
  refine Inv_us I (by omega) ?_ (fun e a b => by rw [us_n (by omega)]; exact ⟨(iC e a b).1, (iC e a b).2.1⟩)
  obtain ⟨⟨a0, a1, a2, a3, a4, a5⟩, b, c, d⟩ := I.1
  unfold vS at h
  refine ⟨⟨us_or (Q := fun x => 0 ≤ x ∧ x ≤ 200) (fun z => by omega) a0, us_or (Q := fun x => 0 ≤ x ∧ x ≤ 50) (fun z => by omega) a1, us_or (Q := fun x => 0 ≤ x ∧ x ≤ 90) (fun z => by omega) a2, us_or (Q := fun x => 0 ≤ x ∧ x ≤ 20) (fun z => by omega) a3, us_or (Q := fun x => 0 ≤ x ∧ x ≤ 9) (fun z => by omega) a4, us_or (Q := fun x => 1 ≤ x ∧ x ≤ 4) (fun z => by omega) a5⟩, fun k x y => ?_, fun k x y => ?_, fun t x y => ?_⟩
  · rw [us_n (by omega)]
    exact b k x y
  · rw [us_n (by omega)]
    exact c k x y
  · rw [us_n (by omega), us_n (by omega), us_n (by omega), us_n (by omega)]
    exact d t x y
theorem Inv_wgt {f : Int → Int} {s v : Int} (I : Inv f) (hs : 0 ≤ s ∧ s < 6) (h : 1 ≤ v ∧ v ≤ 9) : Inv (us f (15 + s) v) := by
  have iC := I.2.2.1
  refine Inv_us I (by omega) ?_ (fun e a b => by rw [us_n (by omega)]; exact ⟨(iC e a b).1, (iC e a b).2.1⟩)
  obtain ⟨a, b, c, d⟩ := I.1
  refine ⟨?_, fun k x y => us_or (Q := fun x => 1 ≤ x ∧ x ≤ 9) (fun _ => h) (b k x y), fun k x y => ?_, fun t x y => ?_⟩
  · rw [us_n (by omega), us_n (by omega), us_n (by omega), us_n (by omega), us_n (by omega), us_n (by omega)]
    exact a
  · rw [us_n (by omega)]
    exact c k x y
  · rw [us_n (by omega), us_n (by omega), us_n (by omega), us_n (by omega)]
    exact d t x y
theorem Inv_tru {f : Int → Int} {s v : Int} (I : Inv f) (hs : 0 ≤ s ∧ s < 5) (h : 0 ≤ v ∧ v ≤ 9) : Inv (us f (21 + s) v) := by
  have iC := I.2.2.1
  refine Inv_us I (by omega) ?_ (fun e a b => by rw [us_n (by omega)]; exact ⟨(iC e a b).1, (iC e a b).2.1⟩)
  obtain ⟨a, b, c, d⟩ := I.1
  refine ⟨?_, fun k x y => ?_, fun k x y => us_or (Q := fun x => 0 ≤ x ∧ x ≤ 9) (fun _ => h) (c k x y), fun t x y => ?_⟩
  · rw [us_n (by omega), us_n (by omega), us_n (by omega), us_n (by omega), us_n (by omega), us_n (by omega)]
    exact a
  · rw [us_n (by omega)]
    exact b k x y
  · rw [us_n (by omega), us_n (by omega), us_n (by omega), us_n (by omega)]
    exact d t x y
theorem Inv_hds {f : Int → Int} {s v : Int} (I : Inv f) (hs : 0 ≤ s ∧ s < 3) (h : 0 ≤ v ∧ v ≤ 3) : Inv (us f (26 + 4 * s) v) := by
  have iC := I.2.2.1
  refine Inv_us I (by omega) ?_ (fun e a b => us_or (Q := fun x => 0 ≤ x ∧ x ≤ 3) (fun _ => h) ⟨(iC e a b).1, (iC e a b).2.1⟩)
  obtain ⟨a, b, c, d⟩ := I.1
  refine ⟨?_, fun k x y => ?_, fun k x y => ?_, fun t x y => ?_⟩
  · rw [us_n (by omega), us_n (by omega), us_n (by omega), us_n (by omega), us_n (by omega), us_n (by omega)]
    exact a
  · rw [us_n (by omega)]
    exact b k x y
  · rw [us_n (by omega)]
    exact c k x y
  · rw [us_n (by omega), us_n (by omega), us_n (by omega), us_n (by omega)]
    exact d t x y
/-- one place of the state is set, after a keep -/
theorem G_set {M M1 N : Mem} {r : Nat} {k p v y : Int} (g : GI M) (k4 : Kp4 M M1) (hr : 15 + cl p = r) (hk : pl p = k) (hp : Pv p) (h6 : p < 86 ∧ p ≠ 6 ∧ p ≠ 7) (hO : Inv (us (M 12) p v)) (q : Set1 (upM M1 r k v) N y p v) : M1 r k = y ∧ GI N := by
  obtain ⟨q1, q2, q3, q4⟩ := q
  have hb := cl_lt hp.1
  have e12 : upM M1 r k v 12 = M 12 := by rw [upM_r (by omega), k4.lo (by omega) (by omega)]
  have e11 : upM M1 r k v 11 = M 11 := by rw [upM_r (by omega), k4.lo (by omega) (by omega)]
  rw [e12] at q1 q2
  have s1 : RelS M1 15 (M 12) := g.1.1.off (fun r a b => k4.lo (by omega) (by omega))
  refine ⟨?_, G_chg g k4 (fun r' a b c d => upM_r (by omega)) (s1.up p hp (by omega) hr hk (en_n (nP h6.1))) q2 q3 ⟨hO, by rw [us_n (by omega)]; exact g.2.1.2⟩ ?_ ?_⟩
  · rw [← q1]
    exact s1.at p ⟨hp, Or.inl h6.1⟩ hr hk (nP h6.1)
  · rw [q4 4 (by omega), e11, upM_r (by omega), k4.lo (by omega) (by omega)]
    exact g.1.2.2.2.2.2.1
  · exact Or.inr (by rw [q4 4 (by omega), e11])
theorem GI.sz {M : Mem} (g : GI M) : 0 ≤ M 4 2 ∧ M 4 2 ≤ 4 := by rw [g.1.2.2.1]; exact g.2.2.1
theorem GI.cm {M : Mem} (g : GI M) : 0 ≤ M 26 0 ∧ M 26 0 ≤ 64 := by
  have e : M 26 0 = M 12 7 := g.1.1.ca
  have i7 := g.2.1.1.i7
  omega
abbrev C_X6_isWithin : Ct := (3, true, fun as M => ∃ (v : Int) (lo : Int) (hi : Int), as = [wI v, wI lo, wI hi] ∧ (inr v ∧ inr lo ∧ inr hi), fun as M x M' => ∀ (v : Int) (lo : Int) (hi : Int), as = [wI v, wI lo, wI hi] → ((x = 1 ∧ (lo ≤ v ∧ v ≤ hi) ∨ x = 0 ∧ ¬ (lo ≤ v ∧ v ≤ hi)) ∧ M = M'))
def sx_X6_isWithin : Sx := (tb_X6_isWithin, fdX6, kLX6, kIX6, sgX6, ntX6, [], 2)
set_option maxRecDepth 100000 in
set_option maxHeartbeats 1000000 in
theorem ok_X6_isWithin (L : Nat) (scr : Int → Int) (v : Int) (lo : Int) (hi : Int) (M : Mem) (hp : inr v ∧ inr lo ∧ inr hi) : Runs sx_X6_isWithin L (xcF scr) (fun x M' => (x = 1 ∧ (lo ≤ v ∧ v ≤ hi) ∨ x = 0 ∧ ¬ (lo ≤ v ∧ v ≤ hi)) ∧ M = M') 0 [wI v, wI lo, wI hi] [] M := by
  obtain ⟨h1, h2, h3⟩ := hp
  refine R_iload_n (q := 1) (i := 0) rfl rfl rfl rfl ?_
  refine R_iload_n (q := 2) (i := 1) rfl rfl rfl rfl ?_
  refine R_icmp_lt (q := 5) (tgt := 14) rfl rfl (by decide) (by omega) (by omega) (fun h2 => ?_) (fun h2 => ?_)
  · refine R_iconst (q := 15) rfl rfl ?_
    refine R_ret rfl (Or.inr ⟨rfl, (by first | exact Or.inl rfl | exact Or.inr rfl | omega)⟩) ?_
    exact ⟨by first | exact Or.inl ⟨rfl, by omega, by omega⟩ | exact Or.inr ⟨rfl, by omega⟩, rfl⟩
  · refine R_iload_n (q := 6) (i := 0) rfl rfl rfl rfl ?_
    refine R_iload_n (q := 7) (i := 2) rfl rfl rfl rfl ?_
    refine R_icmp_gt (q := 10) (tgt := 14) rfl rfl (by decide) (by omega) (by omega) (fun h7 => ?_) (fun h7 => ?_)
    · refine R_iconst (q := 15) rfl rfl ?_
      refine R_ret rfl (Or.inr ⟨rfl, (by first | exact Or.inl rfl | exact Or.inr rfl | omega)⟩) ?_
      exact ⟨by first | exact Or.inl ⟨rfl, by omega, by omega⟩ | exact Or.inr ⟨rfl, by omega⟩, rfl⟩
    · refine R_iconst (q := 11) rfl rfl ?_
      refine R_goto (q := 14) (tgt := 15) rfl rfl (by decide) ?_
      refine R_ret rfl (Or.inr ⟨rfl, (by first | exact Or.inl rfl | exact Or.inr rfl | omega)⟩) ?_
      exact ⟨by first | exact Or.inl ⟨rfl, by omega, by omega⟩ | exact Or.inr ⟨rfl, by omega⟩, rfl⟩
set_option maxRecDepth 100000 in
theorem mt_X6_isWithin : MtOK yX6_isWithin cX6_isWithin 3 (some .boolean) 0 C_X6_isWithin := by
  refine mt_of sx_X6_isWithin (by decide +kernel) (Or.inr (Or.inl ⟨rfl, rfl, rfl⟩)) (by decide +kernel) fdX6_ok kLX6_ok kIX6_ok sgX6_ok ntX6_ok
    (all_nil) ?_ ?_
  · rintro as M - ⟨v, lo, hi, rfl, hp⟩
    exact Nat.le_of_ble_eq_true rfl
  · rintro L scr as M - ⟨v, lo, hi, rfl, hp⟩
    exact Runs.mono (fun x M' h _ _ _ e => by cases e; exact h) (ok_X6_isWithin L scr v lo hi M hp)
theorem xc_vS {scr : Int → Int} {s v : Int} (hs : 0 ≤ s ∧ s ≤ 5) : inr (xcF scr 1 s) ∧ inr (xcF scr 2 s) ∧ (xcF scr 1 s ≤ v ∧ v ≤ xcF scr 2 s ↔ vS s v) := by
  have : s = 0 ∨ s = 1 ∨ s = 2 ∨ s = 3 ∨ s = 4 ∨ s = 5 := by omega
  unfold vS inr
  rcases this with rfl | rfl | rfl | rfl | rfl | rfl
  · rw [show xcF scr 1 0 = 0 from rfl, show xcF scr 2 0 = 200 from rfl]
    omega
  · rw [show xcF scr 1 1 = 0 from rfl, show xcF scr 2 1 = 50 from rfl]
    omega
  · rw [show xcF scr 1 2 = 0 from rfl, show xcF scr 2 2 = 90 from rfl]
    omega
  · rw [show xcF scr 1 3 = 0 from rfl, show xcF scr 2 3 = 20 from rfl]
    omega
  · rw [show xcF scr 1 4 = 0 from rfl, show xcF scr 2 4 = 9 from rfl]
    omega
  · rw [show xcF scr 1 5 = 1 from rfl, show xcF scr 2 5 = 4 from rfl]
    omega
abbrev C_X6_set : Ct := (3, true, fun as M => ∃ (o : Nat) (s : Int) (v : Int), as = [wR o, wI s, wI v] ∧ (o = 3 ∧ GI M ∧ inr s ∧ inr v), fun as M x M' => ∀ (o : Nat) (s : Int) (v : Int), as = [wR o, wI s, wI v] → (Bo C_X7_set [wR 11, wI s, wI v] M M' x))
def sx_X6_set : Sx := (tb_X6_set, fdX6, kLX6, kIX6, sgX6, ntX6, [(41, (9, C_X6_isWithin)), (52, (1, C_X1_keep))], 1)
set_option maxRecDepth 100000 in
set_option maxHeartbeats 1000000 in
theorem ok_X6_set (L : Nat) (scr : Int → Int) (o : Nat) (s : Int) (v : Int) (M : Mem) (hp : o = 3 ∧ GI M ∧ inr s ∧ inr v) : Runs sx_X6_set L (xcF scr) (fun x M' => Bo C_X7_set [wR 11, wI s, wI v] M M' x) 0 [wR o, wI s, wI v, none] [] M := by
  obtain ⟨rfl, g, h1, h2⟩ := hp
  have sz := g.sz
  have cm := g.cm
  refine R_iload_n (q := 1) (i := 1) rfl rfl rfl rfl ?_
  refine R_iconst (q := 2) rfl rfl ?_
  refine R_iconst (q := 3) rfl rfl ?_
  refine R_cS3I (q := 6) (ci := 9) (C := C_X6_isWithin) rfl rfl rfl rfl rfl ⟨_, _, _, rfl, (by first | trivial | assumption | omega)⟩ rfl rfl (fun x M' hc => ?_)
  replace hc := hc _ _ _ rfl
  obtain ⟨w3, rfl⟩ := hc
  refine R_if_ne (q := 9) (tgt := 12) rfl rfl (by decide) (by omega) (fun h6 => ?_) (fun h6 => ?_)
  · refine R_iload_n (q := 13) (i := 2) rfl rfl rfl rfl ?_
    refine R_gets (q := 16) rfl rfl rfl ?_
    refine R_iload_n (q := 17) (i := 1) rfl rfl rfl rfl ?_
    have xc := xc_vS (scr := scr) (s := s) (v := v) (by omega)
    refine R_ialdX (q := 18) rfl rfl (by decide) (show 0 ≤ s ∧ s < ((6 : Nat) : Int) by omega) ?_
    refine R_gets (q := 21) rfl rfl rfl ?_
    refine R_iload_n (q := 22) (i := 1) rfl rfl rfl rfl ?_
    refine R_ialdX (q := 23) rfl rfl (by decide) (show 0 ≤ s ∧ s < ((6 : Nat) : Int) by omega) ?_
    refine R_cS3I (q := 26) (ci := 9) (C := C_X6_isWithin) rfl rfl rfl rfl rfl ⟨_, _, _, rfl, ⟨h2, xc.1, xc.2.1⟩⟩ rfl rfl (fun x M' hc => ?_)
    replace hc := hc _ _ _ rfl
    obtain ⟨w23, rfl⟩ := hc
    refine R_if_ne (q := 29) (tgt := 32) rfl rfl (by decide) (by omega) (fun h26 => ?_) (fun h26 => ?_)
    · refine R_aload_n (q := 33) (i := 0) rfl rfl rfl rfl ?_
      refine R_getR (q := 36) rfl rfl rfl rfl rfl (by omega) ?_
      refine R_aload_n (q := 37) (i := 0) rfl rfl rfl rfl ?_
      refine R_getR (q := 40) rfl rfl rfl rfl rfl (by omega) ?_
      refine R_cV1N (q := 43) (ci := 1) (C := C_X1_keep) rfl rfl rfl rfl rfl ⟨_, _, rfl, ⟨rfl, rfl, g.1.2.1, sz, cm⟩⟩ rfl rfl (by omega) (fun M' hc => ?_)
      replace hc := hc _ _ rfl
      generalize M' = M1 at hc ⊢
      have hk : Kp4 M M1 := hc
      refine R_aload_n (q := 44) (i := 0) rfl rfl rfl rfl ?_
      refine R_getR (q := 47) rfl rfl rfl rfl rfl (by omega) ?_
      refine R_getR (q := 50) rfl rfl rfl (lay0 st15) rfl (by omega) ?_
      refine R_iload_n (q := 51) (i := 1) rfl rfl rfl rfl ?_
      refine R_iald (q := 52) rfl rfl (layi st15 rfl) (by omega) (by omega) rfl ?_
      refine R_istore_n (q := 53) (i := 3) rfl rfl rfl rfl ?_
      refine R_aload_n (q := 54) (i := 0) rfl rfl rfl rfl ?_
      refine R_getR (q := 57) rfl rfl rfl rfl rfl (by omega) ?_
      refine R_getR (q := 60) rfl rfl rfl (lay0 st15) rfl (by omega) ?_
      refine R_iload_n (q := 61) (i := 1) rfl rfl rfl rfl ?_
      refine R_iload_n (q := 62) (i := 2) rfl rfl rfl rfl ?_
      refine R_iast (q := 63) rfl rfl (layi st15 rfl) (by omega) (by omega) rfl ?_
      refine R_iload_n (q := 64) (i := 3) rfl rfl rfl rfl ?_
      refine R_ret rfl (Or.inl rfl) ?_
      have hv : vS s v := xc.2.2.mp (by omega)
      refine ⟨fun r a b => by rw [upM_r (by omega), hk.lo (by omega) (by omega)], fun y N q => ?_⟩
      rcases q 11 s v rfl with ⟨_, z⟩ | ⟨z, _⟩
      · exact G_set g hk (by unfold cl; rw [if_pos (by omega), if_pos (by omega)]) (by unfold pl; rw [if_pos (by omega), if_pos (by omega)]) (by unfold Pv; omega) (by omega) (Inv_set g.2.1.1 hv) z
      · exact absurd hv z
    · refine R_bipush (q := 31) rfl rfl (by decide) ?_
      refine R_ret rfl (Or.inl rfl) ?_
      refine Bo_sm g SmC.rf (fun y N q => ?_)
      have hv : ¬ vS s v := fun z => by have := xc.2.2.mpr z; omega
      rcases q 11 s v rfl with ⟨z, _⟩ | ⟨_, z, rfl⟩
      · exact absurd z hv
      · exact ⟨z.symm, SmR.rf⟩
  · refine R_bipush (q := 11) rfl rfl (by decide) ?_
    refine R_ret rfl (Or.inl rfl) ?_
    refine Bo_sm g SmC.rf (fun y N q => ?_)
    have hv : ¬ vS s v := fun z => by unfold vS at z; omega
    rcases q 11 s v rfl with ⟨z, _⟩ | ⟨_, z, rfl⟩
    · exact absurd z hv
    · exact ⟨z.symm, SmR.rf⟩
set_option maxRecDepth 100000 in
theorem mt_X6_set : MtOK yX6_set cX6_set 4 (some .int) 3 C_X6_set := by
  refine mt_of sx_X6_set (by decide +kernel) (Or.inl ⟨rfl, rfl, rfl⟩) (by decide +kernel) fdX6_ok kLX6_ok kIX6_ok sgX6_ok ntX6_ok
    (all_cons (clokS mt_X6_isWithin (GT_at 282 (by decide +kernel) (by decide +kernel)) (GT_at 11 (by decide +kernel) (by decide +kernel)) (GT_at 284 (by decide +kernel) (by decide +kernel)) (by decide +kernel) (by decide) (GT_at 283 (by decide +kernel) (by decide +kernel))) (all_cons (clokV mt_X1_keep rfl (GT_at 245 (by decide +kernel) (by decide +kernel)) (GT_at 15 (by decide +kernel) (by decide +kernel)) (GT_at 248 (by decide +kernel) (by decide +kernel)) (by decide +kernel) (by decide) (GT_at 246 (by decide +kernel) (by decide +kernel)) (GT_at 247 (by decide +kernel) (by decide +kernel)) rfl rfl) (all_nil))) ?_ ?_
  · rintro as M - ⟨o, s, v, rfl, hp⟩
    exact Nat.le_of_ble_eq_true rfl
  · rintro L scr as M - ⟨o, s, v, rfl, hp⟩
    exact Runs.mono (fun x M' h _ _ _ e => by cases e; exact h) (ok_X6_set L scr o s v M hp)
