theorem cl_11 : ∀ n : Nat, n < 86 → cl (n : Int) = 11 → n = 7 := by decide +kernel
theorem tcl_v : tcl 0 = 12 ∧ tcl 1 = 14 ∧ tcl 2 = 15 ∧ tcl 3 = 16 ∧ tcl 4 = 19 ∧ tcl 5 = 17 ∧ tcl 6 = 18 ∧ tcl 7 = 20 ∧ tcl 8 = 21 := by decide
theorem adF_rel {M N : Mem} {a : Nat} {f : Int → Int} {c p0 p1 p2 up lo tr : Int} (h : RelS M a f) (h7 : 0 ≤ f 7 ∧ f 7 < 64) (hA : AdI M N (a + 11) (f 7) [(10, 0), (9, 0), (8, 0), (7, f 6), (6, 0), (5, p2), (4, p1), (3, p0), (1, c)]) (e0 : nib up = p0) (e1 : nib lo = p1) (e2 : nib tr = p2) :
    RelS (upM N (a + 11) 0 (f 7 + 1)) a (adF f c up lo tr) := by
  obtain ⟨h1, h2, h3, h4⟩ := hA
  intro i hi
  have f7 : adF f c up lo tr 7 = f 7 + 1 := if_pos rfl
  have hv := hi.2
  rw [f7] at hv
  obtain ⟨i0, i1, i2, i3, i4, i5⟩ := hi.1
  by_cases e : i < 86
  · obtain ⟨n, rfl⟩ : ∃ n : Nat, i = n := ⟨i.toNat, by omega⟩
    have b := cl_b n (by omega)
    by_cases x : cl (n : Int) = 11
    · have := cl_11 n (by omega) x
      subst this
      rw [en_n (nP (by omega))]
      exact upM_s.trans f7.symm
    · have n7 : n ≠ 7 := fun z => x (by rw [z]; decide)
      have hn := h n ⟨hi.1, by omega⟩
      rw [upM_r (by omega), h4 _ (by omega), hn]
      unfold adF
      rw [if_neg (by omega), if_neg (by omega), if_neg (by omega), if_neg (by omega), if_neg (by omega), if_neg (by omega), if_neg (by omega)]
  · obtain ⟨t, cc, rfl, ht, hc⟩ : ∃ t c : Int, i = 86 + 9 * t + c ∧ 0 ≤ t ∧ 0 ≤ c ∧ c < 9 := ⟨(i - 86) / 9, (i - 86) % 9, by omega, by omega, by omega, by omega⟩
    rw [(cl_t ht hc).1, (cl_t ht hc).2]
    have tb := tcl_b cc
    rw [upM_r (by omega)]
    by_cases x : t < f 7
    · obtain ⟨n, rfl⟩ : ∃ n : Nat, cc = n := ⟨cc.toNat, by omega⟩
      have hj := (tcl_j n (by omega)).1
      have hn := h (86 + 9 * t + n) ⟨hi.1, by omega⟩
      rw [(cl_t ht hc).1, (cl_t ht hc).2] at hn
      have := h3 _ hj t (by omega)
      rw [show a + 11 + (tcl (n : Int) - 11) = a + tcl (n : Int) by omega] at this
      rw [this, hn]
      unfold adF
      rw [if_neg (by omega), if_neg (by omega), if_neg (by omega), if_neg (by omega), if_neg (by omega), if_neg (by omega), if_neg (by omega)]
    · have x : t = f 7 := by omega
      have g := fun p hp => h2 p hp
      obtain ⟨t0, t1, t2, t3, t4, t5, t6, t7, t8⟩ := tcl_v
      have k : cc = 0 ∨ cc = 1 ∨ cc = 2 ∨ cc = 3 ∨ cc = 4 ∨ cc = 5 ∨ cc = 6 ∨ cc = 7 ∨ cc = 8 := by omega
      rw [← x] at g
      have aF : ∀ j, adF f c up lo tr j = if j = 7 then f 7 + 1 else if j = 86 + 9 * t then c else if j = 87 + 9 * t then up else if j = 88 + 9 * t then lo else if j = 89 + 9 * t then tr else if j = 92 + 9 * t then f 6 else if 90 + 9 * t ≤ j ∧ j ≤ 94 + 9 * t then 0 else f j := fun j => by
        unfold adF
        rw [x]
      rw [aF]
      rcases k with rfl | rfl | rfl | rfl | rfl | rfl | rfl | rfl | rfl
      · rw [t0, en_n (nPt (by omega)), if_neg (by omega), if_pos (by omega)]
        exact g (1, c) (by simp)
      · rw [t1, en_p (yP ht (by omega)), if_neg (by omega), if_neg (by omega), if_pos (by omega), e0]
        exact g (3, p0) (by simp)
      · rw [t2, en_p (yP ht (by omega)), if_neg (by omega), if_neg (by omega), if_neg (by omega), if_pos (by omega), e1]
        exact g (4, p1) (by simp)
      · rw [t3, en_p (yP ht (by omega)), if_neg (by omega), if_neg (by omega), if_neg (by omega), if_neg (by omega), if_pos (by omega), e2]
        exact g (5, p2) (by simp)
      · rw [t4, en_n (nPt (by omega)), if_neg (by omega), if_neg (by omega), if_neg (by omega), if_neg (by omega), if_neg (by omega), if_neg (by omega), if_pos (by omega)]
        exact g (8, 0) (by simp)
      · rw [t5, en_n (nPt (by omega)), if_neg (by omega), if_neg (by omega), if_neg (by omega), if_neg (by omega), if_neg (by omega), if_neg (by omega), if_pos (by omega)]
        exact g (6, 0) (by simp)
      · rw [t6, en_n (nPt (by omega)), if_neg (by omega), if_neg (by omega), if_neg (by omega), if_neg (by omega), if_neg (by omega), if_pos (by omega)]
        exact g (7, f 6) (by simp)
      · rw [t7, en_n (nPt (by omega)), if_neg (by omega), if_neg (by omega), if_neg (by omega), if_neg (by omega), if_neg (by omega), if_neg (by omega), if_pos (by omega)]
        exact g (9, 0) (by simp)
      · rw [t8, en_n (nPt (by omega)), if_neg (by omega), if_neg (by omega), if_neg (by omega), if_neg (by omega), if_neg (by omega), if_neg (by omega), if_pos (by omega)]
        exact g (10, 0) (by simp)
abbrev C_X4_admit : Ct := (3, true, fun as M => ∃ (a : Nat) (c : Int) (s : Nat), as = [wR a, wI c, wR s] ∧ (SI M a ∧ s = 10 ∧ M 200 7 < 64 ∧ M 200 27 < 16), fun as M x M' => ∀ (a : Nat) (c : Int) (s : Nat), as = [wR a, wI c, wR s] → (M 200 7 = x ∧ FrS M M' a ∧ ∀ up lo tr, nib up = M 10 0 → nib lo = M 10 1 → nib tr = M 10 2 → RelS M' a (adm (M 200) c up lo tr)))
def sx_X4_admit : Sx := (tb_X4_admit, fdX4, kLX4, kIX4, sgX4, ntX4, [(86, (5, C_X5_add)), (90, (0, C_X0_append))], 1)
set_option maxRecDepth 100000 in
set_option maxHeartbeats 1000000 in
theorem ok_X4_admit (L : Nat) (scr : Int → Int) (a : Nat) (c : Int) (s : Nat) (M : Mem) (hp : SI M a ∧ s = 10 ∧ M 200 7 < 64 ∧ M 200 27 < 16) : Runs sx_X4_admit L (xcF scr) (fun x M' => M 200 7 = x ∧ FrS M M' a ∧ ∀ up lo tr, nib up = M 10 0 → nib lo = M 10 1 → nib tr = M 10 2 → RelS M' a (adm (M 200) c up lo tr)) 0 [wR a, wI c, wR s, none] [] M := by
  obtain ⟨⟨hst, hr, I⟩, rfl, g1, g2⟩ := hp
  have hb := id hst
  unfold isSt at hb
  have i7 := I.i7
  have e7 := hr.ca
  have e6 := hr.tm
  have d0 : (0 : Int) ≤ 0 ∧ (0 : Int) < 3 := by omega
  have ew := hr.wa d0
  have le := I.le d0.1 d0.2
  have g2' : M 200 (27 + 4 * 0) < 16 := g2
  refine R_aload_n (q := 1) (i := 0) rfl rfl rfl rfl ?_
  refine R_getR (q := 4) rfl rfl rfl (lay0 hst) rfl (by omega) ?_
  refine R_getI (q := 7) (k1 := 0) rfl rfl rfl (lay_tk (tkI hst)) rfl (by omega) rfl ?_
  refine R_istore_n (q := 8) (i := 3) rfl rfl rfl rfl ?_
  refine R_aload_n (q := 9) (i := 0) rfl rfl rfl rfl ?_
  refine R_getR (q := 12) rfl rfl rfl (lay0 hst) rfl (by omega) ?_
  refine R_iload_n (q := 13) (i := 1) rfl rfl rfl rfl ?_
  refine R_aload_n (q := 14) (i := 2) rfl rfl rfl rfl ?_
  refine R_aload_n (q := 15) (i := 0) rfl rfl rfl rfl ?_
  refine R_getI (q := 18) (k1 := 5) rfl rfl rfl (lay0 hst) rfl (by omega) rfl ?_
  refine R_cV3N (q := 21) (ci := 5) (C := C_X5_add) rfl rfl rfl rfl rfl ⟨_, _, _, _, rfl, ⟨tkI hst, rfl, by omega, by omega⟩⟩ rfl (lay_tk (tkI hst)) (by omega) (fun M' hc => ?_)
  replace hc := hc _ _ _ _ rfl
  obtain ⟨N, hA, rfl⟩ := hc
  rw [e7, e6] at hA
  have eN : N (a + 5 + 2 * (0 : Int).toNat) 1 = M 200 (27 + 4 * 0) := (congrFun (hA.2.2.2 _ (by omega)) 1).trans ew
  have eN' : upM N (a + 11) 0 (M (a + 11) 0 + 1) (a + 5 + 2 * (0 : Int).toNat) 1 = M 200 (27 + 4 * 0) := (congrFun (upM_r (by omega)) 1).trans eN
  have f1 : FrS M (upM N (a + 11) 0 (M (a + 11) 0 + 1)) a := fun r a0 a1 => by rw [upM_r (by omega), hA.2.2.2 r (by omega)]
  refine R_aload_n (q := 22) (i := 0) rfl rfl rfl rfl ?_
  refine R_getR (q := 25) rfl rfl rfl (lay0 hst) rfl (by omega) ?_
  refine R_iconst (q := 26) rfl rfl ?_
  refine R_aald (q := 27) (r2 := a + 5 + 2 * (0 : Int).toNat) rfl rfl (layi hst rfl) (by omega) (by omega) rfl ?_
  refine R_iload_n (q := 28) (i := 3) rfl rfl rfl rfl ?_
  refine R_cV1N (q := 31) (ci := 0) (C := C_X0_append) rfl rfl rfl rfl rfl ⟨_, _, rfl, ⟨dkI hst d0, by omega, by omega⟩⟩ rfl (lay_dk (dkI hst d0)) (by omega) (fun M' hc => ?_)
  replace hc := hc _ _ rfl
  subst hc
  refine R_iload_n (q := 32) (i := 3) rfl rfl rfl rfl ?_
  refine R_ret rfl (Or.inl rfl) ?_
  refine ⟨e7.symm, (f1.up (by omega) (by omega)).up (by omega) (by omega), fun up lo tr q0 q1 q2 => ?_⟩
  have r1 := adF_rel (up := up) (lo := lo) (tr := tr) hr ⟨i7.1, g1⟩ hA q0 q1 q2
  rw [← e7] at r1
  have w : adF (M 200) c up lo tr (27 + 4 * 0) = M 200 (27 + 4 * 0) := by
    unfold adF
    rw [if_neg (by omega), if_neg (by omega), if_neg (by omega), if_neg (by omega), if_neg (by omega), if_neg (by omega), if_neg (by omega)]
  have r2 := r1.jn (d := 0) (t := M (a + 11) 0) d0 (by rw [w]; omega)
  unfold adm
  rw [← e7]
  exact r2
set_option maxRecDepth 100000 in
theorem mt_X4_admit : MtOK yX4_admit cX4_admit 4 (some .int) 1 C_X4_admit := by
  refine mt_of sx_X4_admit (by decide +kernel) (Or.inl ⟨rfl, rfl, rfl⟩) (by decide +kernel) fdX4_ok kLX4_ok kIX4_ok sgX4_ok ntX4_ok
    (all_cons (clokV mt_X5_add rfl (GT_at 270 (by decide +kernel) (by decide +kernel)) (GT_at 14 (by decide +kernel) (by decide +kernel)) (GT_at 273 (by decide +kernel) (by decide +kernel)) (by decide +kernel) (by decide) (GT_at 271 (by decide +kernel) (by decide +kernel)) (GT_at 272 (by decide +kernel) (by decide +kernel)) rfl rfl) (all_cons (clokV mt_X0_append rfl (GT_at 274 (by decide +kernel) (by decide +kernel)) (GT_at 13 (by decide +kernel) (by decide +kernel)) (GT_at 277 (by decide +kernel) (by decide +kernel)) (by decide +kernel) (by decide) (GT_at 275 (by decide +kernel) (by decide +kernel)) (GT_at 276 (by decide +kernel) (by decide +kernel)) rfl rfl) (all_nil))) ?_ ?_
  · rintro as M - ⟨a, c, s, rfl, hp⟩
    exact Nat.le_of_ble_eq_true rfl
  · rintro L scr as M - ⟨a, c, s, rfl, hp⟩
    exact Runs.mono (fun x M' h _ _ _ e => by cases e; exact h) (ok_X4_admit L scr a c s M hp)
/-- the class's ring of rows: which of them is the j-th -/
def ring (M : Mem) (j : Int) : Nat := 103 + 22 * ((M 4 1 + j) % 4).toNat
theorem ring_st (M : Mem) (j : Int) : isSt (ring M j) := by
  unfold isSt ring
  omega
abbrev C_X1_keep : Ct := (2, false, fun as M => ∃ (o : Nat) (s : Nat), as = [wR o, wR s] ∧ (o = 4 ∧ s = 15 ∧ (0 ≤ M 4 1 ∧ M 4 1 < 4) ∧ (0 ≤ M 4 2 ∧ M 4 2 ≤ 4) ∧ 0 ≤ M 26 0 ∧ M 26 0 ≤ 64), fun as M x M' => ∀ (o : Nat) (s : Nat), as = [wR o, wR s] → ((∀ f, RelS M 15 f → RelS M' (ring M (M 4 2)) f) ∧ (∀ r, r < 191 → r ≠ 4 → (r < ring M (M 4 2) ∨ ring M (M 4 2) + 22 ≤ r) → M' r = M r) ∧ M' 4 2 = (if M 4 2 = 4 then 4 else M 4 2 + 1) ∧ M' 4 1 = (if M 4 2 = 4 then (M 4 1 + 1) % 4 else M 4 1)))
def sx_X1_keep : Sx := (tb_X1_keep, fdX1, kLX1, kIX1, sgX1, ntX1, [(25, (4, C_X4_copyFrom))], 0)
set_option maxRecDepth 100000 in
set_option maxHeartbeats 1000000 in
theorem ok_X1_keep (L : Nat) (scr : Int → Int) (o : Nat) (s : Nat) (M : Mem) (hp : o = 4 ∧ s = 15 ∧ (0 ≤ M 4 1 ∧ M 4 1 < 4) ∧ (0 ≤ M 4 2 ∧ M 4 2 ≤ 4) ∧ 0 ≤ M 26 0 ∧ M 26 0 ≤ 64) : Runs sx_X1_keep L (xcF scr) (fun x M' => (∀ f, RelS M 15 f → RelS M' (ring M (M 4 2)) f) ∧ (∀ r, r < 191 → r ≠ 4 → (r < ring M (M 4 2) ∨ ring M (M 4 2) + 22 ≤ r) → M' r = M r) ∧ M' 4 2 = (if M 4 2 = 4 then 4 else M 4 2 + 1) ∧ M' 4 1 = (if M 4 2 = 4 then (M 4 1 + 1) % 4 else M 4 1)) 0 [wR o, wR s] [] M := by
  obtain ⟨rfl, rfl, g1, g2, g3⟩ := hp
  have hst : isSt 15 := by unfold isSt; omega
  have hr := ring_st M (M 4 2)
  have hb := id hr
  unfold isSt at hb
  have er : 103 + 22 * ((M 4 1 + M 4 2) % 4).toNat = ring M (M 4 2) := rfl
  have em := i32rem_of (x := M 4 1 + M 4 2) (y := 4) (by omega) (by omega) (by omega) (by omega)
  have em2 := i32rem_of (x := M 4 1 + 1) (y := 4) (by omega) (by omega) (by omega) (by omega)
  refine R_aload_n (q := 1) (i := 0) rfl rfl rfl rfl ?_
  refine R_getR (q := 4) rfl rfl rfl rfl rfl (by omega) ?_
  refine R_aload_n (q := 5) (i := 0) rfl rfl rfl rfl ?_
  refine R_getI (q := 8) (k1 := 1) rfl rfl rfl rfl rfl (by omega) rfl ?_
  refine R_aload_n (q := 9) (i := 0) rfl rfl rfl rfl ?_
  refine R_getI (q := 12) (k1 := 2) rfl rfl rfl rfl rfl (by omega) rfl ?_
  refine R_iadd (q := 13) rfl rfl ?_
  refine R_iconst (q := 14) rfl rfl ?_
  refine R_irem (q := 15) rfl rfl (by omega) ?_
  rw [em]
  refine R_aald (q := 16) (r2 := ring M (M 4 2)) rfl rfl rfl (by omega) (by omega) rfl ?_
  refine R_aload_n (q := 17) (i := 1) rfl rfl rfl rfl ?_
  refine R_cV1N (q := 20) (ci := 4) (C := C_X4_copyFrom) rfl rfl rfl rfl rfl ⟨_, _, rfl, ⟨hr, hst, by unfold ring at *; omega, g3⟩⟩ rfl (lay0 hr) (by omega) (fun M' hc => ?_)
  replace hc := hc _ _ rfl
  obtain ⟨r1, f1⟩ := hc
  have q4 : M' 4 = M 4 := f1 4 (by omega) (by unfold ring at *; omega)
  have q42 := congrFun q4 2
  have q41 := congrFun q4 1
  generalize ring M (M 4 2) = p at *
  refine R_aload_n (q := 21) (i := 0) rfl rfl rfl rfl ?_
  refine R_getI (q := 24) (k1 := 2) rfl rfl rfl rfl rfl (by omega) rfl ?_
  refine R_iconst (q := 25) rfl rfl ?_
  refine R_icmp_ge (q := 28) (tgt := 41) rfl rfl (by decide) (by omega) (by omega) (fun h25 => ?_) (fun h25 => ?_)
  · refine R_aload_n (q := 42) (i := 0) rfl rfl rfl rfl ?_
    refine R_aload_n (q := 43) (i := 0) rfl rfl rfl rfl ?_
    refine R_getI (q := 46) (k1 := 1) rfl rfl rfl rfl rfl (by omega) rfl ?_
    refine R_iconst (q := 47) rfl rfl ?_
    refine R_iadd (q := 48) rfl rfl ?_
    refine R_iconst (q := 49) rfl rfl ?_
    refine R_irem (q := 50) rfl rfl (by omega) ?_
    rw [q41, em2]
    refine R_putI (q := 53) (k1 := 1) rfl rfl rfl rfl rfl (by omega) rfl rfl rfl rfl ?_
    refine R_vret rfl rfl ?_
    refine ⟨fun f hf => (r1 f hf).off (fun r a0 a1 => upM_r (by omega)), fun r a0 a1 a2 => by rw [upM_r (by omega), f1 r a0 a2], ?_, ?_⟩
    · first
        | (rw [upM_s, if_neg (by omega)]; omega)
        | (rw [upM_off (by omega), if_pos (by omega)]; omega)
    · first
        | (rw [upM_s, if_pos (by omega)])
        | (rw [upM_off (by omega), if_neg (by omega)]; omega)
  · refine R_aload_n (q := 29) (i := 0) rfl rfl rfl rfl ?_
    refine R_dup (q := 30) rfl rfl rfl ?_
    refine R_getI (q := 33) (k1 := 2) rfl rfl rfl rfl rfl (by omega) rfl ?_
    refine R_iconst (q := 34) rfl rfl ?_
    refine R_iadd (q := 35) rfl rfl ?_
    refine R_putI (q := 38) (k1 := 2) rfl rfl rfl rfl rfl (by omega) rfl rfl rfl rfl ?_
    refine R_goto (q := 41) (tgt := 53) rfl rfl (by decide) ?_
    refine R_vret rfl rfl ?_
    refine ⟨fun f hf => (r1 f hf).off (fun r a0 a1 => upM_r (by omega)), fun r a0 a1 a2 => by rw [upM_r (by omega), f1 r a0 a2], ?_, ?_⟩
    · first
        | (rw [upM_s, if_neg (by omega)]; omega)
        | (rw [upM_off (by omega), if_pos (by omega)]; omega)
    · first
        | (rw [upM_s, if_pos (by omega)])
        | (rw [upM_off (by omega), if_neg (by omega)]; omega)
set_option maxRecDepth 100000 in
theorem mt_X1_keep : MtOK yX1_keep cX1_keep 2 none 2 C_X1_keep := by
  refine mt_of sx_X1_keep (by decide +kernel) (Or.inr (Or.inr ⟨rfl, rfl, rfl⟩)) (by decide +kernel) fdX1_ok kLX1_ok kIX1_ok sgX1_ok ntX1_ok
    (all_cons (clokV mt_X4_copyFrom rfl (GT_at 249 (by decide +kernel) (by decide +kernel)) (GT_at 12 (by decide +kernel) (by decide +kernel)) (GT_at 252 (by decide +kernel) (by decide +kernel)) (by decide +kernel) (by decide) (GT_at 250 (by decide +kernel) (by decide +kernel)) (GT_at 251 (by decide +kernel) (by decide +kernel)) rfl rfl) (all_nil)) ?_ ?_
  · rintro as M - ⟨o, s, rfl, hp⟩
    exact Nat.le_of_ble_eq_true rfl
  · rintro L scr as M - ⟨o, s, rfl, hp⟩
    exact Runs.mono (fun x M' h _ _ e => by cases e; exact h) (ok_X1_keep L scr o s M hp)
abbrev C_X1_takeBack : Ct := (2, false, fun as M => ∃ (o : Nat) (s : Nat), as = [wR o, wR s] ∧ (o = 4 ∧ s = 15 ∧ (0 ≤ M 4 1 ∧ M 4 1 < 4) ∧ (1 ≤ M 4 2 ∧ M 4 2 ≤ 4) ∧ 0 ≤ M (ring M (M 4 2 - 1) + 11) 0 ∧ M (ring M (M 4 2 - 1) + 11) 0 ≤ 64), fun as M x M' => ∀ (o : Nat) (s : Nat), as = [wR o, wR s] → ((∀ f, RelS M (ring M (M 4 2 - 1)) f → RelS M' 15 f) ∧ (∀ r, r < 191 → r ≠ 4 → (r < 15 ∨ 37 ≤ r) → M' r = M r) ∧ M' 4 2 = M 4 2 - 1 ∧ M' 4 1 = M 4 1))
def sx_X1_takeBack : Sx := (tb_X1_takeBack, fdX1, kLX1, kIX1, sgX1, ntX1, [(25, (4, C_X4_copyFrom))], 0)
set_option maxRecDepth 100000 in
set_option maxHeartbeats 1000000 in
theorem ok_X1_takeBack (L : Nat) (scr : Int → Int) (o : Nat) (s : Nat) (M : Mem) (hp : o = 4 ∧ s = 15 ∧ (0 ≤ M 4 1 ∧ M 4 1 < 4) ∧ (1 ≤ M 4 2 ∧ M 4 2 ≤ 4) ∧ 0 ≤ M (ring M (M 4 2 - 1) + 11) 0 ∧ M (ring M (M 4 2 - 1) + 11) 0 ≤ 64) : Runs sx_X1_takeBack L (xcF scr) (fun x M' => (∀ f, RelS M (ring M (M 4 2 - 1)) f → RelS M' 15 f) ∧ (∀ r, r < 191 → r ≠ 4 → (r < 15 ∨ 37 ≤ r) → M' r = M r) ∧ M' 4 2 = M 4 2 - 1 ∧ M' 4 1 = M 4 1) 0 [wR o, wR s] [] M := by
  obtain ⟨rfl, rfl, g1, g2, g3⟩ := hp
  have hst : isSt 15 := by unfold isSt; omega
  have hr := ring_st M (M 4 2 - 1)
  have hb := id hr
  unfold isSt at hb
  have er : 103 + 22 * ((M 4 1 + (M 4 2 - 1)) % 4).toNat = ring M (M 4 2 - 1) := rfl
  have em := i32rem_of (x := M 4 1 + (M 4 2 - 1)) (y := 4) (by omega) (by omega) (by omega) (by omega)
  have q1 : upM M 4 2 (M 4 2 - 1) 4 1 = M 4 1 := upM_off (by omega)
  have q2 : upM M 4 2 (M 4 2 - 1) 4 2 = M 4 2 - 1 := upM_s
  have hge : 103 ≤ ring M (M 4 2 - 1) := by unfold ring; omega
  have f0 : ∀ r, r ≠ 4 → upM M 4 2 (M 4 2 - 1) r = M r := fun r h => upM_r h
  refine R_aload_n (q := 1) (i := 0) rfl rfl rfl rfl ?_
  refine R_dup (q := 2) rfl rfl rfl ?_
  refine R_getI (q := 5) (k1 := 2) rfl rfl rfl rfl rfl (by omega) rfl ?_
  refine R_iconst (q := 6) rfl rfl ?_
  refine R_isub (q := 7) rfl rfl ?_
  refine R_putI (q := 10) (k1 := 2) rfl rfl rfl rfl rfl (by omega) rfl rfl rfl rfl ?_
  generalize upM M 4 2 (M 4 2 - 1) = N at q1 q2 f0 ⊢
  refine R_aload_n (q := 11) (i := 1) rfl rfl rfl rfl ?_
  refine R_aload_n (q := 12) (i := 0) rfl rfl rfl rfl ?_
  refine R_getR (q := 15) rfl rfl rfl rfl rfl (by omega) ?_
  refine R_aload_n (q := 16) (i := 0) rfl rfl rfl rfl ?_
  refine R_getI (q := 19) (k1 := 1) rfl rfl rfl rfl rfl (by omega) rfl ?_
  refine R_aload_n (q := 20) (i := 0) rfl rfl rfl rfl ?_
  refine R_getI (q := 23) (k1 := 2) rfl rfl rfl rfl rfl (by omega) rfl ?_
  rw [q1, q2]
  refine R_iadd (q := 24) rfl rfl ?_
  refine R_iconst (q := 25) rfl rfl ?_
  refine R_irem (q := 26) rfl rfl (by omega) ?_
  rw [em]
  refine R_aald (q := 27) (r2 := ring M (M 4 2 - 1)) rfl rfl rfl (by omega) (by omega) rfl ?_
  refine R_cV1N (q := 30) (ci := 4) (C := C_X4_copyFrom) rfl rfl rfl rfl rfl ⟨_, _, rfl, ⟨hst, hr, by omega, by rw [f0 _ (by omega)]; exact g3⟩⟩ rfl (lay0 hst) (by omega) (fun M' hc => ?_)
  replace hc := hc _ _ rfl
  obtain ⟨r1, f1⟩ := hc
  have q4 : M' 4 = N 4 := f1 4 (by omega) (by omega)
  refine R_vret rfl rfl ?_
  exact ⟨fun f hf => r1 f (hf.off (fun r a0 a1 => f0 r (by omega))), fun r a0 a1 a2 => (f1 r a0 (by omega)).trans (f0 r a1), by rw [q4, q2], by rw [q4, q1]⟩
set_option maxRecDepth 100000 in
theorem mt_X1_takeBack : MtOK yX1_takeBack cX1_takeBack 2 none 2 C_X1_takeBack := by
  refine mt_of sx_X1_takeBack (by decide +kernel) (Or.inr (Or.inr ⟨rfl, rfl, rfl⟩)) (by decide +kernel) fdX1_ok kLX1_ok kIX1_ok sgX1_ok ntX1_ok
    (all_cons (clokV mt_X4_copyFrom rfl (GT_at 249 (by decide +kernel) (by decide +kernel)) (GT_at 12 (by decide +kernel) (by decide +kernel)) (GT_at 252 (by decide +kernel) (by decide +kernel)) (by decide +kernel) (by decide) (GT_at 250 (by decide +kernel) (by decide +kernel)) (GT_at 251 (by decide +kernel) (by decide +kernel)) rfl rfl) (all_nil)) ?_ ?_
  · rintro as M - ⟨o, s, rfl, hp⟩
    exact Nat.le_of_ble_eq_true rfl
  · rintro L scr as M - ⟨o, s, rfl, hp⟩
    exact Runs.mono (fun x M' h _ _ e => by cases e; exact h) (ok_X1_takeBack L scr o s M hp)
