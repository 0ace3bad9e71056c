/-! the class's turns -/
theorem FrS.rf {M : Mem} {a : Nat} : FrS M M a := fun _ _ _ => rfl
theorem FrS.up {M N : Mem} {a r : Nat} {k x : Int} (h : FrS M N a) (hr : a ≤ r) (hr2 : r < a + 22) : FrS M (upM N r k x) a := fun r' h1 h2 => by rw [upM_r (by omega), h r' h1 h2]
theorem FrS.tr {M N N' : Mem} {a : Nat} (h : FrS M N a) (h2 : FrS N N' a) : FrS M N' a := fun r a0 a1 => (h2 r a0 a1).trans (h r a0 a1)
theorem FrS.gh {M N : Mem} {a : Nat} {f : Int → Int} (h : FrS (gho M f) N a) : FrS M N a := fun r a0 a1 => (h r a0 a1).trans (gho_r M f a0)
theorem FrS.ds {M N : Mem} {a d : Nat} {p : Int} (h : FrS M N a) (hd : d < 3) : FrS M (dsM N (a + 5 + 2 * d) p) a := fun r a0 a1 => by
  rw [← h r a0 a1]
  funext k
  unfold dsM dsP
  rw [if_neg (by omega), if_neg (by omega)]
theorem us_off {f : Int → Int} {i j x : Int} (h : j ≠ i) : us f i x j = f j := us_n h
theorem RelS.ds {M : Mem} {a : Nat} {f : Int → Int} (h : RelS M a f) {d p : Int} (hd : 0 ≤ d ∧ d < 3) (hp : 0 ≤ p) (hw : 0 ≤ f (27 + 4 * d) ∧ f (27 + 4 * d) ≤ 16) : RelS (dsM M (a + 5 + 2 * d.toNat) p) a (rmv f d p) := by
  intro i hi
  have ew := h.wa hd
  have e7 : rmv f d p 7 = f 7 := rmv_o hd hp hw.2 (by omega) (by omega)
  have hv : Vd f i := ⟨hi.1, by have := hi.2; rw [e7] at this; exact this⟩
  have p27 : Pv (27 + 4 * d) := by unfold Pv; omega
  unfold dsM dsP
  by_cases h1 : i = 27 + 4 * d
  · subst h1
    rw [if_pos ⟨by rw [(clD hd).1.2.1]; omega, (clD hd).2.2.1⟩, en_n (nP (by omega)), ew]
    unfold rmv
    rw [if_pos rfl]
  · rw [if_neg (fun z => h1 (cp_inj hi.1 p27 (by rw [(clD hd).1.2.1]; omega) (by rw [(clD hd).2.2.1]; exact z.2)))]
    unfold rmv
    rw [if_neg h1]
    by_cases h2 : 38 + 16 * d + p ≤ i ∧ i < 37 + 16 * d + f (27 + 4 * d)
    · obtain ⟨q, rfl⟩ : ∃ q, i = 38 + 16 * d + q := ⟨i - (38 + 16 * d), by omega⟩
      have hq : 0 ≤ q ∧ q < 16 := by omega
      rw [if_pos h2, if_pos ⟨by rw [(clQ hd hq).1]; omega, by rw [(clQ hd hq).2]; omega, by rw [(clQ hd hq).2]; omega⟩, (clQ hd hq).2, en_n (nP (by omega)), h.qu hd (by omega)]
      congr 1
      omega
    · rw [if_neg h2, if_neg ?_]
      · exact h i hv
      · rintro ⟨z1, z2, z3⟩
        have hq : 0 ≤ pl i ∧ pl i < 16 := by omega
        have := cp_inj hi.1 (j := 38 + 16 * d + pl i) (by unfold Pv; omega) (by rw [(clQ hd hq).1]; omega) (by rw [(clQ hd hq).2])
        omega
theorem rmv_us {f : Int → Int} {d p j x : Int} (hd : 0 ≤ d ∧ d < 3) (hp : 0 ≤ p) (hw : f (27 + 4 * d) ≤ 16) (h1 : j ≠ 27 + 4 * d) (h2 : j < 38 ∨ 86 ≤ j) : rmv (us f j x) d p = us (rmv f d p) j x := by
  funext i
  unfold rmv
  rw [us_n (f := f) (x := x) (Ne.symm h1)]
  by_cases e1 : i = 27 + 4 * d
  · rw [if_pos e1, us_n (by omega), us_n (by omega), if_pos e1]
  · rw [if_neg e1]
    by_cases e2 : 38 + 16 * d + p ≤ i ∧ i < 37 + 16 * d + f (27 + 4 * d)
    · rw [if_pos e2, us_n (by omega), us_n (by omega), if_neg e1, if_pos e2]
    · rw [if_neg e2]
      by_cases e3 : i = j
      · rw [e3, us_s, us_s]
      · rw [us_n e3, us_n e3, if_neg e1, if_neg e2]
/-- the head of a desk's queue leaves it -/
abbrev QF (f : Int → Int) (d : Int) : Prop := (1 ≤ f (27 + 4 * d) ∧ f (27 + 4 * d) ≤ 16) ∧ ∀ p, 0 ≤ p → p < f (27 + 4 * d) → inr (f (38 + 16 * d + p))
theorem QF.pre {M : Mem} {a : Nat} {f : Int → Int} (h : RelS M a f) (hst : isSt a) {d : Int} (hd : 0 ≤ d ∧ d < 3) (q : QF f d) : isDk (a + 5 + 2 * d.toNat) ∧ (0 ≤ M (a + 5 + 2 * d.toNat) 1 ∧ M (a + 5 + 2 * d.toNat) 1 ≤ 16) ∧ inr (f (38 + 16 * d)) ∧ (∀ p, 0 ≤ p → p < M (a + 5 + 2 * d.toNat) 1 → inr (M (a + 5 + 2 * d.toNat + 1) p)) ∧ ∃ p, 0 ≤ p ∧ p < M (a + 5 + 2 * d.toNat) 1 ∧ M (a + 5 + 2 * d.toNat + 1) p = f (38 + 16 * d) := by
  have q1 := q.1
  have q0 := q.2 0 (by omega) (by omega)
  rw [Int.add_zero] at q0
  rw [h.wa hd]
  refine ⟨dkI hst hd, by omega, q0, fun p p0 p1 => ?_, 0, by omega, by omega, ?_⟩
  · rw [h.qu hd (by omega)]
    exact q.2 p p0 p1
  · rw [h.qu hd (by omega), Int.add_zero]
theorem QF.post {M M' : Mem} {a : Nat} {f : Int → Int} (h : RelS M a f) {d : Int} (hd : 0 ≤ d ∧ d < 3) (q : QF f d) (hc : ∃ p, (0 ≤ p ∧ p < M (a + 5 + 2 * d.toNat) 1 ∧ M (a + 5 + 2 * d.toNat + 1) p = f (38 + 16 * d) ∧ ∀ p', 0 ≤ p' → p' < p → M (a + 5 + 2 * d.toNat + 1) p' ≠ f (38 + 16 * d)) ∧ M' = dsM M (a + 5 + 2 * d.toNat) p) : RelS M' a (rmv f d 0) ∧ FrS M M' a := by
  obtain ⟨p, ⟨h1, h2, h3, h4⟩, rfl⟩ := hc
  have hp : p = 0 := by
    by_cases e : p = 0
    · exact e
    · have q1 := q.1
      refine absurd ?_ (h4 0 (by omega) (by omega))
      rw [h.qu hd (by omega), Int.add_zero]
  subst hp
  have q1 := q.1
  exact ⟨h.ds hd (by omega) (by omega), FrS.rf.ds (by omega)⟩
/-- a trunk's number in a state's cell -/
theorem tkU {M : Mem} {a : Nat} {f : Int → Int} (h : RelS M a f) {t c x v : Int} {r : Nat} (ht : 0 ≤ t ∧ t < 64) (hc : c = 0 ∨ 4 ≤ c ∧ c < 9) (hr : a + tcl c = r) (hv : x = v) {i : Int} (hi : 86 + 9 * t + c = i) : RelS (upM M r t v) a (us f i x) := by
  subst hi
  exact h.up (86 + 9 * t + c) (by unfold Pv; omega) (by omega) (by rw [(cl_t ht.1 (by omega)).1]; exact hr) (cl_t ht.1 (by omega)).2 ((en_n (nPt hc)).trans hv)
abbrev C_X4_letPass : Ct := (4, false, fun as M => ∃ (a : Nat) (t : Int) (o : Nat) (w : Int), as = [wR a, wI t, wR o, wI w] ∧ (isSt a ∧ RelS M a (M 200) ∧ (0 ≤ t ∧ t < 64) ∧ ∃ d, (0 ≤ d ∧ d < 3) ∧ o = a + 5 + 2 * d.toNat ∧ QF (M 200) d ∧ t = M 200 (38 + 16 * d)), fun as M x M' => ∀ (a : Nat) (t : Int) (o : Nat) (w : Int), as = [wR a, wI t, wR o, wI w] → (∀ d, (0 ≤ d ∧ d < 3) → o = a + 5 + 2 * d.toNat → RelS M' a (pss (rmv (M 200) d 0) d t w) ∧ FrS M M' a))
def sx_X4_letPass : Sx := (tb_X4_letPass, fdX4, kLX4, kIX4, sgX4, ntX4, [(126, (0, C_X0_dismiss))], 0)
set_option maxRecDepth 100000 in
set_option maxHeartbeats 1000000 in
theorem ok_X4_letPass (L : Nat) (scr : Int → Int) (a : Nat) (t : Int) (o : Nat) (w : Int) (M : Mem) (hp : isSt a ∧ RelS M a (M 200) ∧ (0 ≤ t ∧ t < 64) ∧ ∃ d, (0 ≤ d ∧ d < 3) ∧ o = a + 5 + 2 * d.toNat ∧ QF (M 200) d ∧ t = M 200 (38 + 16 * d)) : Runs sx_X4_letPass L (xcF scr) (fun x M' => ∀ d, (0 ≤ d ∧ d < 3) → o = a + 5 + 2 * d.toNat → RelS M' a (pss (rmv (M 200) d 0) d t w) ∧ FrS M M' a) 0 [wR a, wI t, wR o, wI w] [] M := by
  obtain ⟨hst, hr, g1, d, hd, rfl, q, hq⟩ := hp
  have hb := id hst
  unfold isSt at hb
  have pq := q.pre hr hst hd
  rw [← hq] at pq
  refine R_aload_n (q := 1) (i := 2) rfl rfl rfl rfl ?_
  refine R_iload_n (q := 2) (i := 1) rfl rfl rfl rfl ?_
  refine R_cV1N (q := 5) (ci := 0) (C := C_X0_dismiss) rfl rfl rfl rfl rfl ⟨_, _, rfl, pq⟩ rfl (lay_dk (dkI hst hd)) (by omega) (fun M' hc => ?_)
  replace hc := hc _ _ rfl
  rw [hq] at hc
  obtain ⟨r1, f1⟩ := q.post hr hd hc
  clear hc
  have e4 := r1.ps hd
  refine R_aload_n (q := 6) (i := 2) rfl rfl rfl rfl ?_
  refine R_dup (q := 7) rfl rfl rfl ?_
  refine R_getI (q := 10) (k1 := 4) rfl rfl rfl (lay_dk (dkI hst hd)) rfl (by omega) rfl ?_
  refine R_iconst (q := 11) rfl rfl ?_
  refine R_iadd (q := 12) rfl rfl ?_
  refine R_putI (q := 15) (k1 := 4) rfl rfl rfl (lay_dk (dkI hst hd)) rfl (by omega) rfl rfl rfl rfl ?_
  refine R_aload_n (q := 16) (i := 0) rfl rfl rfl rfl ?_
  refine R_getR (q := 19) rfl rfl rfl (lay0 hst) rfl (by omega) ?_
  refine R_getR (q := 22) rfl rfl rfl (lay_tk (tkI hst)) rfl (by omega) ?_
  refine R_iload_n (q := 23) (i := 1) rfl rfl rfl rfl ?_
  refine R_iload_n (q := 24) (i := 3) rfl rfl rfl rfl ?_
  refine R_iast (q := 25) rfl rfl (lay_ta (tkI hst) rfl) (by omega) (by omega) rfl ?_
  refine R_vret rfl rfl ?_
  intro e he hx
  have : d = e := by omega
  subst this
  have r2 := r1.up (29 + 4 * d) (x := rmv (M 200) d 0 (29 + 4 * d) + 1) (by unfold Pv; omega) (by omega) (by rw [(clD hd).1.2.2.2, ← Nat.add_assoc]) (clD hd).2.2.2.2 (en_n (nP (by omega)))
  rw [← e4] at r2
  have r3 := tkU r2 (t := t) (c := 4) (x := w) (r := a + 11 + 8) g1 (by omega) rfl rfl (i := 90 + 9 * t) (by omega)
  refine ⟨?_, (f1.up (by omega) (by omega)).up (by omega) (by omega)⟩
  refine r3.cg (fun i hi => ?_)
  unfold pss
  rw [us_n (i := if w = 1 then 8 else 9) (by obtain ⟨h0, h1, h2, h3, -⟩ := hi.1; split <;> omega), us_c (by omega), e4]
set_option maxRecDepth 100000 in
theorem mt_X4_letPass : MtOK yX4_letPass cX4_letPass 4 none 2 C_X4_letPass := by
  refine mt_of sx_X4_letPass (by decide +kernel) (Or.inr (Or.inr ⟨rfl, rfl, rfl⟩)) (by decide +kernel) fdX4_ok kLX4_ok kIX4_ok sgX4_ok ntX4_ok
    (all_cons (clokV mt_X0_dismiss rfl (GT_at 422 (by decide +kernel) (by decide +kernel)) (GT_at 13 (by decide +kernel) (by decide +kernel)) (GT_at 398 (by decide +kernel) (by decide +kernel)) (by decide +kernel) (by decide) (GT_at 396 (by decide +kernel) (by decide +kernel)) (GT_at 397 (by decide +kernel) (by decide +kernel)) rfl rfl) (all_nil)) ?_ ?_
  · rintro as M - ⟨a, t, o, w, rfl, hp⟩
    exact Nat.le_of_ble_eq_true rfl
  · rintro L scr as M - ⟨a, t, o, w, rfl, hp⟩
    exact Runs.mono (fun x M' h _ _ _ _ e => by cases e; exact h) (ok_X4_letPass L scr a t o w M hp)
abbrev C_X4_takeFee : Ct := (2, false, fun as M => ∃ (a : Nat) (t : Int), as = [wR a, wI t] ∧ (isSt a ∧ RelS M a (M 200) ∧ (0 ≤ t ∧ t < M 200 7) ∧ M 200 7 ≤ 64), fun as M x M' => ∀ (a : Nat) (t : Int), as = [wR a, wI t] → (RelS M' a (tks (M 200) t (M 200 1) 11) ∧ FrS M M' a))
def sx_X4_takeFee : Sx := (tb_X4_takeFee, fdX4, kLX4, kIX4, sgX4, ntX4, [], 0)
set_option maxRecDepth 100000 in
set_option maxHeartbeats 1000000 in
theorem ok_X4_takeFee (L : Nat) (scr : Int → Int) (a : Nat) (t : Int) (M : Mem) (hp : isSt a ∧ RelS M a (M 200) ∧ (0 ≤ t ∧ t < M 200 7) ∧ M 200 7 ≤ 64) : Runs sx_X4_takeFee L (xcF scr) (fun x M' => RelS M' a (tks (M 200) t (M 200 1) 11) ∧ FrS M M' a) 0 [wR a, wI t] [] M := by
  obtain ⟨hst, hr, g1, g2⟩ := hp
  have hb := id hst
  unfold isSt at hb
  have g3 : t < 64 := by omega
  have r1 := tkU hr (t := t) (c := 5) (x := M 200 (91 + 9 * t) + M 200 1) (r := a + 11 + 6) ⟨g1.1, g3⟩ (by omega) rfl rfl (i := 91 + 9 * t) (by omega)
  have e1 := r1.st (k := 1) (by omega)
  rw [us_n (by omega)] at e1
  have e2 := r1.fe
  rw [us_n (by omega)] at e2
  refine R_aload_n (q := 1) (i := 0) rfl rfl rfl rfl ?_
  refine R_getR (q := 4) rfl rfl rfl (lay0 hst) rfl (by omega) ?_
  refine R_getR (q := 7) rfl rfl rfl (lay_tk (tkI hst)) rfl (by omega) ?_
  refine R_iload_n (q := 8) (i := 1) rfl rfl rfl rfl ?_
  refine R_dup2 (q := 9) rfl rfl rfl rfl ?_
  refine R_iald (q := 10) (v := M 200 (91 + 9 * t)) rfl rfl (lay_ta (tkI hst) rfl) (by omega) (by omega) (hr.ac g1 g3) ?_
  refine R_aload_n (q := 11) (i := 0) rfl rfl rfl rfl ?_
  refine R_getR (q := 14) rfl rfl rfl (lay0 hst) rfl (by omega) ?_
  refine R_iconst (q := 15) rfl rfl ?_
  refine R_iald (q := 16) (v := M 200 1) rfl rfl (layi hst rfl) (by omega) (by omega) (hr.st (by omega)) ?_
  refine R_iadd (q := 17) rfl rfl ?_
  refine R_iast (q := 18) rfl rfl (lay_ta (tkI hst) rfl) (by omega) (by omega) rfl ?_
  refine R_aload_n (q := 19) (i := 0) rfl rfl rfl rfl ?_
  refine R_dup (q := 20) rfl rfl rfl ?_
  refine R_getI (q := 23) (k1 := 6) rfl rfl rfl (lay0 hst) rfl (by omega) rfl ?_
  refine R_aload_n (q := 24) (i := 0) rfl rfl rfl rfl ?_
  refine R_getR (q := 27) rfl rfl rfl (lay0 hst) rfl (by omega) ?_
  refine R_iconst (q := 28) rfl rfl ?_
  refine R_iald (q := 29) (v := M 200 1) rfl rfl (layi hst rfl) (by omega) (by omega) e1 ?_
  refine R_iadd (q := 30) rfl rfl ?_
  refine R_putI (q := 33) (k1 := 6) rfl rfl rfl (lay0 hst) rfl (by omega) rfl rfl rfl rfl ?_
  refine R_vret rfl rfl ?_
  have r2 := r1.up 11 (x := M 200 11 + M 200 1) (by unfold Pv; omega) (by omega) rfl rfl (en_n (nP (by omega)))
  refine ⟨?_, (FrS.rf.up (by omega) (by omega)).up (by omega) (by omega)⟩
  rw [e2]
  exact r2
set_option maxRecDepth 100000 in
theorem mt_X4_takeFee : MtOK yX4_takeFee cX4_takeFee 2 none 0 C_X4_takeFee := by
  refine mt_of sx_X4_takeFee (by decide +kernel) (Or.inr (Or.inr ⟨rfl, rfl, rfl⟩)) (by decide +kernel) fdX4_ok kLX4_ok kIX4_ok sgX4_ok ntX4_ok
    (all_nil) ?_ ?_
  · rintro as M - ⟨a, t, rfl, hp⟩
    exact Nat.le_of_ble_eq_true rfl
  · rintro L scr as M - ⟨a, t, rfl, hp⟩
    exact Runs.mono (fun x M' h _ _ e => by cases e; exact h) (ok_X4_takeFee L scr a t M hp)
def fnd (f : Int → Int) (t : Int) : Int → Int := us (us (us f (93 + 9 * t) (fmk f t)) (91 + 9 * t) (f (91 + 9 * t) + f 2 * fnm f t)) 12 (f 12 + f 2 * fnm f t)
abbrev C_X4_fine : Ct := (2, false, fun as M => ∃ (a : Nat) (t : Int), as = [wR a, wI t] ∧ (isSt a ∧ RelS M a (M 200) ∧ (0 ≤ t ∧ t < M 200 7) ∧ M 200 7 ≤ 64 ∧ Bd (M 200)), fun as M x M' => ∀ (a : Nat) (t : Int), as = [wR a, wI t] → (RelS M' a (fnd (M 200) t) ∧ FrS M M' a))
def sx_X4_fine : Sx := (tb_X4_fine, fdX4, kLX4, kIX4, sgX4, ntX4, [(138, (5, C_X5_hiddenKinds)), (141, (9, C_J6_bitCount_0f7a4))], 0)
set_option maxRecDepth 100000 in
set_option maxHeartbeats 1000000 in
theorem ok_X4_fine (L : Nat) (scr : Int → Int) (a : Nat) (t : Int) (M : Mem) (hp : isSt a ∧ RelS M a (M 200) ∧ (0 ≤ t ∧ t < M 200 7) ∧ M 200 7 ≤ 64 ∧ Bd (M 200)) : Runs sx_X4_fine L (xcF scr) (fun x M' => RelS M' a (fnd (M 200) t) ∧ FrS M M' a) 0 [wR a, wI t, none, none] [] M := by
  obtain ⟨hst, hr, g1, g2, iB⟩ := hp
  have hb := id hst
  unfold isSt at hb
  have g3 : t < 64 := by omega
  have r1 := tkU hr (t := t) (c := 7) (x := fmk (M 200) t) (r := a + 11 + 9) ⟨g1.1, g3⟩ (by omega) rfl rfl (i := 93 + 9 * t) (by omega)
  have e1 := r1.ac (t := t) (by rw [us_n (by omega)]; exact g1) g3
  rw [us_n (by omega)] at e1
  have r2 := tkU r1 (t := t) (c := 5) (x := M 200 (91 + 9 * t) + M 200 2 * fnm (M 200) t) (r := a + 11 + 6) ⟨g1.1, g3⟩ (by omega) rfl rfl (i := 91 + 9 * t) (by omega)
  have e2 := r2.fi
  rw [us_n (by omega), us_n (by omega)] at e2
  have r3 := r2.up 12 (x := M 200 12 + M 200 2 * fnm (M 200) t) (by unfold Pv; omega) (by omega) rfl rfl (en_n (nP (by omega)))
  refine R_aload_n (q := 1) (i := 0) rfl rfl rfl rfl ?_
  refine R_getR (q := 4) rfl rfl rfl (lay0 hst) rfl (by omega) ?_
  refine R_iload_n (q := 5) (i := 1) rfl rfl rfl rfl ?_
  refine R_cV1I (q := 8) (ci := 5) (C := C_X5_hiddenKinds) rfl rfl rfl rfl rfl ⟨_, _, rfl, ⟨tkI hst, ⟨g1.1, g3⟩, hr.ppo iB g1 g3⟩⟩ rfl (lay_tk (tkI hst)) (by omega) (fun x M' hc => ?_)
  replace hc := hc _ _ rfl
  obtain ⟨rfl, rfl⟩ := hc
  refine R_istore_n (q := 9) (i := 2) rfl rfl rfl rfl ?_
  refine R_aload_n (q := 10) (i := 0) rfl rfl rfl rfl ?_
  refine R_getR (q := 13) rfl rfl rfl (lay0 hst) rfl (by omega) ?_
  refine R_iconst (q := 14) rfl rfl ?_
  refine R_iald (q := 15) (v := M 200 2) rfl rfl (layi hst rfl) (by omega) (by omega) (hr.st (by omega)) ?_
  refine R_iload_n (q := 16) (i := 2) rfl rfl rfl rfl ?_
  refine R_cS1I (q := 19) (ci := 9) (C := C_J6_bitCount_0f7a4) rfl rfl rfl rfl rfl ⟨_, rfl, (fmk_bd _ _)⟩ rfl rfl (fun x M' hc => ?_)
  replace hc := hc _ rfl
  rw [bcn_fmk] at hc
  obtain ⟨rfl, rfl⟩ := hc
  refine R_imul (q := 20) rfl rfl ?_
  refine R_istore_n (q := 21) (i := 3) rfl rfl rfl rfl ?_
  refine R_aload_n (q := 22) (i := 0) rfl rfl rfl rfl ?_
  refine R_getR (q := 25) rfl rfl rfl (lay0 hst) rfl (by omega) ?_
  refine R_getR (q := 28) rfl rfl rfl (lay_tk (tkI hst)) rfl (by omega) ?_
  refine R_iload_n (q := 29) (i := 1) rfl rfl rfl rfl ?_
  refine R_iload_n (q := 30) (i := 2) rfl rfl rfl rfl ?_
  refine R_iast (q := 31) rfl rfl (lay_ta (tkI hst) rfl) (by omega) (by omega) rfl ?_
  refine R_aload_n (q := 32) (i := 0) rfl rfl rfl rfl ?_
  refine R_getR (q := 35) rfl rfl rfl (lay0 hst) rfl (by omega) ?_
  refine R_getR (q := 38) rfl rfl rfl (lay_tk (tkI hst)) rfl (by omega) ?_
  refine R_iload_n (q := 39) (i := 1) rfl rfl rfl rfl ?_
  refine R_dup2 (q := 40) rfl rfl rfl rfl ?_
  refine R_iald (q := 41) (v := M 200 (91 + 9 * t)) rfl rfl (lay_ta (tkI hst) rfl) (by omega) (by omega) e1 ?_
  refine R_iload_n (q := 42) (i := 3) rfl rfl rfl rfl ?_
  refine R_iadd (q := 43) rfl rfl ?_
  refine R_iast (q := 44) rfl rfl (lay_ta (tkI hst) rfl) (by omega) (by omega) rfl ?_
  refine R_aload_n (q := 45) (i := 0) rfl rfl rfl rfl ?_
  refine R_dup (q := 46) rfl rfl rfl ?_
  refine R_getI (q := 49) (k1 := 7) rfl rfl rfl (lay0 hst) rfl (by omega) rfl ?_
  refine R_iload_n (q := 50) (i := 3) rfl rfl rfl rfl ?_
  refine R_iadd (q := 51) rfl rfl ?_
  refine R_putI (q := 54) (k1 := 7) rfl rfl rfl (lay0 hst) rfl (by omega) rfl rfl rfl rfl ?_
  refine R_vret rfl rfl ?_
  refine ⟨?_, ((FrS.rf.up (by omega) (by omega)).up (by omega) (by omega)).up (by omega) (by omega)⟩
  rw [e2]
  exact r3
set_option maxRecDepth 100000 in
theorem mt_X4_fine : MtOK yX4_fine cX4_fine 4 none 2 C_X4_fine := by
  refine mt_of sx_X4_fine (by decide +kernel) (Or.inr (Or.inr ⟨rfl, rfl, rfl⟩)) (by decide +kernel) fdX4_ok kLX4_ok kIX4_ok sgX4_ok ntX4_ok
    (all_cons (clokV mt_X5_hiddenKinds rfl (GT_at 427 (by decide +kernel) (by decide +kernel)) (GT_at 14 (by decide +kernel) (by decide +kernel)) (GT_at 430 (by decide +kernel) (by decide +kernel)) (by decide +kernel) (by decide) (GT_at 428 (by decide +kernel) (by decide +kernel)) (GT_at 429 (by decide +kernel) (by decide +kernel)) rfl rfl) (all_cons (clokS mt_J6_bitCount_0f7a4 (GT_at 434 (by decide +kernel) (by decide +kernel)) (GT_at 20 (by decide +kernel) (by decide +kernel)) (GT_at 436 (by decide +kernel) (by decide +kernel)) (by decide +kernel) (by decide) (GT_at 435 (by decide +kernel) (by decide +kernel))) (all_nil))) ?_ ?_
  · rintro as M - ⟨a, t, rfl, hp⟩
    exact Nat.le_of_ble_eq_true rfl
  · rintro L scr as M - ⟨a, t, rfl, hp⟩
    exact Runs.mono (fun x M' h _ _ e => by cases e; exact h) (ok_X4_fine L scr a t M hp)
