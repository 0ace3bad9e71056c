/-! the pad -/
def rdp (c : Int → Int) (n : Int) : Nat → Int → Int → Int → Int × Int × Int
  | 0, s, _, p => (1, s, p)
  | m + 1, s, l, p => if s < n ∧ l ≤ c s ∧ c s ≤ 102 then (if s + 1 < n ∧ 49 ≤ c (s + 1) ∧ c (s + 1) ≤ 57 then rdp c n m (s + 2) (c s + 1) (p + (c (s + 1) - 48) * pw (c s - 97)) else (0, s + 1, p)) else (1, s, p)
theorem rdp_bd {c : Int → Int} {n : Int} : ∀ (m : Nat) (s l p : Int), s ≤ n → s ≤ (rdp c n m s l p).2.1 ∧ (rdp c n m s l p).2.1 ≤ n ∧ ((rdp c n m s l p).1 = 0 ∨ (rdp c n m s l p).1 = 1)
  | 0, s, l, p, h => ⟨Int.le_refl _, h, Or.inr rfl⟩
  | m + 1, s, l, p, h => by
    unfold rdp
    by_cases e : s < n ∧ l ≤ c s ∧ c s ≤ 102
    · rw [if_pos e]
      by_cases e2 : s + 1 < n ∧ 49 ≤ c (s + 1) ∧ c (s + 1) ≤ 57
      · rw [if_pos e2]
        obtain ⟨a, b, d⟩ := rdp_bd (c := c) (n := n) m (s + 2) (c s + 1) (p + (c (s + 1) - 48) * pw (c s - 97)) (by omega)
        exact ⟨by omega, b, d⟩
      · rw [if_neg e2]
        exact ⟨by show s ≤ s + 1; omega, by show s + 1 ≤ n; omega, Or.inl rfl⟩
    · rw [if_neg e]
      exact ⟨Int.le_refl _, h, Or.inr rfl⟩
/-- the kinds from l on aren't told yet -/
def Pz (l p : Int) : Prop := (0 ≤ p ∧ p < 1000000) ∧ ∀ k, 0 ≤ k → k < 6 → l - 97 ≤ k → dig p k = 0
theorem Pz_s {l p x v : Int} (h : Pz l p) (hl : 97 ≤ l) (h1 : l ≤ x) (h2 : x ≤ 102) (hv : 0 ≤ v ∧ v ≤ 9) : Pz (x + 1) (p + v * pw (x - 97)) := by
  have hz := h.2 (x - 97) (by omega) (by omega) (by omega)
  have := dig_set (d := p) (v := v) (k := x - 97) h.1 hv (by omega)
  rw [hz, Int.sub_zero] at this
  refine ⟨this.1, fun k a b c => ?_⟩
  rw [this.2 k ⟨a, b⟩, if_neg (by omega)]
  exact h.2 k a b (by omega)
theorem rdp_pz {c : Int → Int} {n : Int} : ∀ (m : Nat) (s l p : Int), 97 ≤ l → Pz l p → 0 ≤ (rdp c n m s l p).2.2 ∧ (rdp c n m s l p).2.2 < 1000000
  | 0, s, l, p, _, h => h.1
  | m + 1, s, l, p, hl, h => by
    unfold rdp
    by_cases e : s < n ∧ l ≤ c s ∧ c s ≤ 102
    · rw [if_pos e]
      by_cases e2 : s + 1 < n ∧ 49 ≤ c (s + 1) ∧ c (s + 1) ≤ 57
      · rw [if_pos e2]
        exact rdp_pz m _ _ _ (by omega) (Pz_s h hl e.2.1 e.2.2 (by omega))
      · rw [if_neg e2]
        exact h.1
    · rw [if_neg e]
      exact h.1
theorem Pz_0 : Pz 97 0 := ⟨by omega, fun k a b _ => by
  refine k6 (P := fun k => dig 0 k = 0) ⟨a, b⟩ ?_ ?_ ?_ ?_ ?_ ?_ <;> decide +kernel⟩
theorem r1_ex : ∃ g : (Int → Int) → Int → Int × Int × Int, ∀ c n, g c n = rdp c n 6 2 97 0 := ⟨fun c n => rdp c n 6 2 97 0, fun _ _ => rfl⟩
noncomputable def r1 : (Int → Int) → Int → Int × Int × Int := Classical.choose r1_ex
theorem r1_eq (c : Int → Int) (n : Int) : rdp c n 6 2 97 0 = r1 c n := (Classical.choose_spec r1_ex c n).symm
theorem r2_ex : ∃ g : (Int → Int) → Int → Int × Int × Int, ∀ c n, g c n = rdp c n 6 ((r1 c n).2.1 + 1) 97 0 := ⟨fun c n => rdp c n 6 ((r1 c n).2.1 + 1) 97 0, fun _ _ => rfl⟩
noncomputable def r2 : (Int → Int) → Int → Int × Int × Int := Classical.choose r2_ex
theorem r2_eq (c : Int → Int) (n : Int) : rdp c n 6 ((r1 c n).2.1 + 1) 97 0 = r2 c n := (Classical.choose_spec r2_ex c n).symm
theorem r3_ex : ∃ g : (Int → Int) → Int → Int × Int × Int, ∀ c n, g c n = rdp c n 6 ((r2 c n).2.1 + 1) 97 0 := ⟨fun c n => rdp c n 6 ((r2 c n).2.1 + 1) 97 0, fun _ _ => rfl⟩
noncomputable def r3 : (Int → Int) → Int → Int × Int × Int := Classical.choose r3_ex
theorem r3_eq (c : Int → Int) (n : Int) : rdp c n 6 ((r2 c n).2.1 + 1) 97 0 = r3 c n := (Classical.choose_spec r3_ex c n).symm
noncomputable def flt (c : Int → Int) (n : Int) : Int :=
  if ¬ (0 < n ∧ 48 ≤ c 0 ∧ c 0 ≤ 52) then 0
  else if ¬ (1 < n ∧ c 1 = 58) then 1
  else if (r1 c n).1 = 0 then (r1 c n).2.1
  else if ¬ ((r1 c n).2.1 < n ∧ c (r1 c n).2.1 = 47) then (r1 c n).2.1
  else if (r2 c n).1 = 0 then (r2 c n).2.1
  else if (r2 c n).2.1 < n ∧ c (r2 c n).2.1 = 61 then (if (r3 c n).1 = 0 then (r3 c n).2.1 else if (r3 c n).2.1 = n then -6 else (r3 c n).2.1)
  else if (r2 c n).2.1 = n then -6 else (r2 c n).2.1
noncomputable def pTr (c : Int → Int) (n : Int) : Int := if (r2 c n).2.1 < n then (r3 c n).2.2 else (r1 c n).2.2
/-- only the spot and the paper that is read have changed -/
def Sp (M M' : Mem) : Prop := (∀ k, k ≠ 5 → k ≠ 6 → M' 11 k = M 11 k) ∧ ∀ r, r ≠ 11 → M' r = M r
def PdM (M : Mem) : Prop := (0 ≤ M 11 4 ∧ M 11 4 ≤ 60) ∧ ∀ i, 0 ≤ i → i < 60 → 0 ≤ M 14 i ∧ M 14 i ≤ 255
theorem Sp.rf {M : Mem} : Sp M M := ⟨fun _ _ _ => rfl, fun _ _ => rfl⟩
theorem Sp.tr {M M1 M2 : Mem} (h : Sp M M1) (k : Sp M1 M2) : Sp M M2 := ⟨fun i a b => (k.1 i a b).trans (h.1 i a b), fun r a => (k.2 r a).trans (h.2 r a)⟩
theorem Sp.u5 {M : Mem} {x : Int} : Sp M (upM M 11 5 x) := ⟨fun k a _ => upM_k a, fun r a => upM_r a⟩
theorem Sp.u6 {M : Mem} {x : Int} : Sp M (upM M 11 6 x) := ⟨fun k _ a => upM_k a, fun r a => upM_r a⟩
theorem Sp.pd {M M1 : Mem} (h : Sp M M1) (p : PdM M) : PdM M1 := by
  unfold PdM
  rw [h.1 4 (by omega) (by omega), h.2 14 (by decide)]
  exact p
def isH (M : Mem) (lo hi : Int) : Prop := M 11 5 < M 11 4 ∧ lo ≤ M 14 (M 11 5) ∧ M 14 (M 11 5) ≤ hi
abbrev C_X7_isHere : Ct := (3, true, fun as M => ∃ (o : Nat) (lo : Int) (hi : Int), as = [wR o, wI lo, wI hi] ∧ (o = 11 ∧ PdM M ∧ (0 ≤ M 11 5 ∧ M 11 5 ≤ 60) ∧ inr lo ∧ inr hi), fun as M x M' => ∀ (o : Nat) (lo : Int) (hi : Int), as = [wR o, wI lo, wI hi] → (((x = 1 ∧ isH M lo hi) ∨ (x = 0 ∧ ¬ isH M lo hi)) ∧ M = M'))
def sx_X7_isHere : Sx := (tb_X7_isHere, fdX7, kLX7, kIX7, sgX7, ntX7, [(92, (9, C_X7_in))], 2)
set_option maxRecDepth 100000 in
set_option maxHeartbeats 1000000 in
theorem ok_X7_isHere (L : Nat) (scr : Int → Int) (o : Nat) (lo : Int) (hi : Int) (M : Mem) (hp : o = 11 ∧ PdM M ∧ (0 ≤ M 11 5 ∧ M 11 5 ≤ 60) ∧ inr lo ∧ inr hi) : Runs sx_X7_isHere L (xcF scr) (fun x M' => ((x = 1 ∧ isH M lo hi) ∨ (x = 0 ∧ ¬ isH M lo hi)) ∧ M = M') 0 [wR o, wI lo, wI hi] [] M := by
  obtain ⟨rfl, ⟨p1, p2⟩, p3, h1, h2⟩ := hp
  unfold isH
  by_cases hz : M 11 5 < M 11 4
  · have pc := p2 (M 11 5) p3.1 (by omega)
    by_cases hy : lo ≤ M 14 (M 11 5) ∧ M 14 (M 11 5) ≤ hi
    · refine R_aload_n (q := 1) (i := 0) rfl rfl rfl rfl ?_
      refine R_getI (q := 4) (k1 := 5) rfl rfl rfl rfl rfl (by omega) rfl ?_
      refine R_aload_n (q := 5) (i := 0) rfl rfl rfl rfl ?_
      refine R_getI (q := 8) (k1 := 4) rfl rfl rfl rfl rfl (by omega) rfl ?_
      refine R_icmp_ge (q := 11) (tgt := 35) rfl rfl (by decide) (by omega) (by omega) (fun h8 => ?_) (fun h8 => ?_)
      · omega
      · refine R_aload_n (q := 12) (i := 0) rfl rfl rfl rfl ?_
        refine R_getR (q := 15) rfl rfl rfl rfl rfl (by omega) ?_
        refine R_aload_n (q := 16) (i := 0) rfl rfl rfl rfl ?_
        refine R_getI (q := 19) (k1 := 5) rfl rfl rfl rfl rfl (by omega) rfl ?_
        refine R_iald (q := 20) rfl rfl rfl (by omega) (by omega) rfl ?_
        refine R_i2l (q := 21) rfl rfl (by omega) ?_
        refine R_iload_n (q := 22) (i := 1) rfl rfl rfl rfl ?_
        refine R_i2l (q := 23) rfl rfl (by omega) ?_
        refine R_iload_n (q := 24) (i := 2) rfl rfl rfl rfl ?_
        refine R_i2l (q := 25) rfl rfl (by omega) ?_
        refine R_cS3I (q := 28) (ci := 9) (C := C_X7_in) rfl rfl rfl rfl rfl ⟨_, _, _, rfl, (by first | trivial | assumption | omega)⟩ rfl rfl (fun x M' hc => ?_)
        replace hc := hc _ _ _ rfl
        rw [if_pos hy] at hc
        obtain ⟨rfl, rfl⟩ := hc
        refine R_if_eq (q := 31) (tgt := 35) rfl rfl (by decide) (by omega) (fun h28 => ?_) (fun h28 => ?_)
        · omega
        · refine R_iconst (q := 32) rfl rfl ?_
          refine R_goto (q := 35) (tgt := 36) rfl rfl (by decide) ?_
          refine R_ret rfl (Or.inr ⟨rfl, (by first | exact Or.inl rfl | exact Or.inr rfl | omega)⟩) ?_
          exact ⟨Or.inl ⟨rfl, hz, hy⟩, rfl⟩
    · refine R_aload_n (q := 1) (i := 0) rfl rfl rfl rfl ?_
      refine R_getI (q := 4) (k1 := 5) rfl rfl rfl rfl rfl (by omega) rfl ?_
      refine R_aload_n (q := 5) (i := 0) rfl rfl rfl rfl ?_
      refine R_getI (q := 8) (k1 := 4) rfl rfl rfl rfl rfl (by omega) rfl ?_
      refine R_icmp_ge (q := 11) (tgt := 35) rfl rfl (by decide) (by omega) (by omega) (fun h8 => ?_) (fun h8 => ?_)
      · omega
      · refine R_aload_n (q := 12) (i := 0) rfl rfl rfl rfl ?_
        refine R_getR (q := 15) rfl rfl rfl rfl rfl (by omega) ?_
        refine R_aload_n (q := 16) (i := 0) rfl rfl rfl rfl ?_
        refine R_getI (q := 19) (k1 := 5) rfl rfl rfl rfl rfl (by omega) rfl ?_
        refine R_iald (q := 20) rfl rfl rfl (by omega) (by omega) rfl ?_
        refine R_i2l (q := 21) rfl rfl (by omega) ?_
        refine R_iload_n (q := 22) (i := 1) rfl rfl rfl rfl ?_
        refine R_i2l (q := 23) rfl rfl (by omega) ?_
        refine R_iload_n (q := 24) (i := 2) rfl rfl rfl rfl ?_
        refine R_i2l (q := 25) rfl rfl (by omega) ?_
        refine R_cS3I (q := 28) (ci := 9) (C := C_X7_in) rfl rfl rfl rfl rfl ⟨_, _, _, rfl, (by first | trivial | assumption | omega)⟩ rfl rfl (fun x M' hc => ?_)
        replace hc := hc _ _ _ rfl
        rw [if_neg hy] at hc
        obtain ⟨rfl, rfl⟩ := hc
        refine R_if_eq (q := 31) (tgt := 35) rfl rfl (by decide) (by omega) (fun h28 => ?_) (fun h28 => ?_)
        · refine R_iconst (q := 36) rfl rfl ?_
          refine R_ret rfl (Or.inr ⟨rfl, (by first | exact Or.inl rfl | exact Or.inr rfl | omega)⟩) ?_
          exact ⟨Or.inr ⟨rfl, fun z => hy z.2⟩, rfl⟩
        · omega
  · refine R_aload_n (q := 1) (i := 0) rfl rfl rfl rfl ?_
    refine R_getI (q := 4) (k1 := 5) rfl rfl rfl rfl rfl (by omega) rfl ?_
    refine R_aload_n (q := 5) (i := 0) rfl rfl rfl rfl ?_
    refine R_getI (q := 8) (k1 := 4) rfl rfl rfl rfl rfl (by omega) rfl ?_
    refine R_icmp_ge (q := 11) (tgt := 35) rfl rfl (by decide) (by omega) (by omega) (fun h8 => ?_) (fun h8 => ?_)
    · refine R_iconst (q := 36) rfl rfl ?_
      refine R_ret rfl (Or.inr ⟨rfl, (by first | exact Or.inl rfl | exact Or.inr rfl | omega)⟩) ?_
      exact ⟨Or.inr ⟨rfl, fun z => hz z.1⟩, rfl⟩
    · omega
set_option maxRecDepth 100000 in
theorem mt_X7_isHere : MtOK yX7_isHere cX7_isHere 3 (some .boolean) 1 C_X7_isHere := by
  refine mt_of sx_X7_isHere (by decide +kernel) (Or.inr (Or.inl ⟨rfl, rfl, rfl⟩)) (by decide +kernel) fdX7_ok kLX7_ok kIX7_ok sgX7_ok ntX7_ok
    (all_cons (clokS mt_X7_in (GT_at 588 (by decide +kernel) (by decide +kernel)) (GT_at 44 (by decide +kernel) (by decide +kernel)) (GT_at 590 (by decide +kernel) (by decide +kernel)) (by decide +kernel) (by decide) (GT_at 589 (by decide +kernel) (by decide +kernel))) (all_nil)) ?_ ?_
  · rintro as M - ⟨o, lo, hi, rfl, hp⟩
    exact Nat.le_of_ble_eq_true rfl
  · rintro L scr as M - ⟨o, lo, hi, rfl, hp⟩
    exact Runs.mono (fun x M' h _ _ _ e => by cases e; exact h) (ok_X7_isHere L scr o lo hi M hp)
abbrev C_X7_takesSign : Ct := (2, true, fun as M => ∃ (o : Nat) (ch : Int), as = [wR o, wI ch] ∧ (o = 11 ∧ PdM M ∧ (0 ≤ M 11 5 ∧ M 11 5 ≤ 60) ∧ inr ch), fun as M x M' => ∀ (o : Nat) (ch : Int), as = [wR o, wI ch] → (((x = 1 ∧ M 11 5 < M 11 4 ∧ M 14 (M 11 5) = ch) ∨ (x = 0 ∧ ¬ (M 11 5 < M 11 4 ∧ M 14 (M 11 5) = ch))) ∧ M' = upM M 11 5 (M 11 5 + x)))
def sx_X7_takesSign : Sx := (tb_X7_takesSign, fdX7, kLX7, kIX7, sgX7, ntX7, [(190, (7, C_X7_isHere)), (49, (9, C_X7_flag))], 2)
set_option maxRecDepth 100000 in
set_option maxHeartbeats 1000000 in
theorem ok_X7_takesSign (L : Nat) (scr : Int → Int) (o : Nat) (ch : Int) (M : Mem) (hp : o = 11 ∧ PdM M ∧ (0 ≤ M 11 5 ∧ M 11 5 ≤ 60) ∧ inr ch) : Runs sx_X7_takesSign L (xcF scr) (fun x M' => ((x = 1 ∧ M 11 5 < M 11 4 ∧ M 14 (M 11 5) = ch) ∨ (x = 0 ∧ ¬ (M 11 5 < M 11 4 ∧ M 14 (M 11 5) = ch))) ∧ M' = upM M 11 5 (M 11 5 + x)) 0 [wR o, wI ch, none] [] M := by
  obtain ⟨rfl, pd, p3, h1⟩ := hp
  refine R_aload_n (q := 1) (i := 0) rfl rfl rfl rfl ?_
  refine R_iload_n (q := 2) (i := 1) rfl rfl rfl rfl ?_
  refine R_iload_n (q := 3) (i := 1) rfl rfl rfl rfl ?_
  refine R_cV2I (q := 6) (ci := 7) (C := C_X7_isHere) rfl rfl rfl rfl rfl ⟨_, _, _, rfl, ⟨rfl, pd, p3, h1, h1⟩⟩ rfl rfl (by omega) (fun x M' hc => ?_)
  replace hc := hc _ _ _ rfl
  obtain ⟨hc, rfl⟩ := hc
  unfold isH at hc
  refine R_istore_n (q := 7) (i := 2) rfl rfl rfl rfl ?_
  refine R_aload_n (q := 8) (i := 0) rfl rfl rfl rfl ?_
  refine R_dup (q := 9) rfl rfl rfl ?_
  refine R_getI (q := 12) (k1 := 5) rfl rfl rfl rfl rfl (by omega) rfl ?_
  refine R_iload_n (q := 13) (i := 2) rfl rfl rfl rfl ?_
  refine R_cS1I (q := 16) (ci := 9) (C := C_X7_flag) rfl rfl rfl rfl rfl ⟨_, rfl, (by omega)⟩ rfl rfl (fun x M' hc => ?_)
  replace hc := hc _ rfl
  try simp only [sh_mr, mr_mr] at hc
  obtain ⟨rfl, rfl⟩ := hc
  refine R_iadd (q := 17) rfl rfl ?_
  refine R_putI (q := 20) (k1 := 5) rfl rfl rfl rfl rfl (by omega) rfl rfl rfl rfl ?_
  refine R_iload_n (q := 21) (i := 2) rfl rfl rfl rfl ?_
  refine R_ret rfl (Or.inr ⟨rfl, (by omega)⟩) ?_
  exact ⟨by omega, rfl⟩
set_option maxRecDepth 100000 in
theorem mt_X7_takesSign : MtOK yX7_takesSign cX7_takesSign 3 (some .boolean) 2 C_X7_takesSign := by
  refine mt_of sx_X7_takesSign (by decide +kernel) (Or.inr (Or.inl ⟨rfl, rfl, rfl⟩)) (by decide +kernel) fdX7_ok kLX7_ok kIX7_ok sgX7_ok ntX7_ok
    (all_cons (clokV mt_X7_isHere rfl (GT_at 637 (by decide +kernel) (by decide +kernel)) (GT_at 44 (by decide +kernel) (by decide +kernel)) (GT_at 640 (by decide +kernel) (by decide +kernel)) (by decide +kernel) (by decide) (GT_at 639 (by decide +kernel) (by decide +kernel)) (GT_at 13 (by decide +kernel) (by decide +kernel)) rfl rfl) (all_cons (clokS mt_X7_flag (GT_at 645 (by decide +kernel) (by decide +kernel)) (GT_at 44 (by decide +kernel) (by decide +kernel)) (GT_at 647 (by decide +kernel) (by decide +kernel)) (by decide +kernel) (by decide) (GT_at 646 (by decide +kernel) (by decide +kernel))) (all_nil))) ?_ ?_
  · rintro as M - ⟨o, ch, rfl, hp⟩
    exact Nat.le_of_ble_eq_true rfl
  · rintro L scr as M - ⟨o, ch, rfl, hp⟩
    exact Runs.mono (fun x M' h _ _ e => by cases e; exact h) (ok_X7_takesSign L scr o ch M hp)
abbrev C_X7_readsPaper : Ct := (1, true, fun as M => ∃ (o : Nat), as = [wR o] ∧ (o = 11 ∧ PdM M ∧ 0 ≤ M 11 5 ∧ M 11 5 ≤ M 11 4), fun as M x M' => ∀ (o : Nat), as = [wR o] → (x = (rdp (M 14) (M 11 4) 6 (M 11 5) 97 0).1 ∧ M' 11 5 = (rdp (M 14) (M 11 4) 6 (M 11 5) 97 0).2.1 ∧ M' 11 6 = (rdp (M 14) (M 11 4) 6 (M 11 5) 97 0).2.2 ∧ Sp M M'))
def sx_X7_readsPaper : Sx := (tb_X7_readsPaper, fdX7, kLX7, kIX7, sgX7, ntX7, [(190, (7, C_X7_isHere)), (35, (9, C_X7_power))], 2)
set_option maxRecDepth 100000 in
set_option maxHeartbeats 1000000 in
theorem ok_X7_readsPaper (L : Nat) (scr : Int → Int) (o : Nat) (M : Mem) (hp : o = 11 ∧ PdM M ∧ 0 ≤ M 11 5 ∧ M 11 5 ≤ M 11 4) : Runs sx_X7_readsPaper L (xcF scr) (fun x M' => x = (rdp (M 14) (M 11 4) 6 (M 11 5) 97 0).1 ∧ M' 11 5 = (rdp (M 14) (M 11 4) 6 (M 11 5) 97 0).2.1 ∧ M' 11 6 = (rdp (M 14) (M 11 4) 6 (M 11 5) 97 0).2.2 ∧ Sp M M') 0 [wR o, none, none] [] M := by
  obtain ⟨rfl, pd, p3⟩ := hp
  obtain ⟨T, hT⟩ : ∃ T, T = rdp (M 14) (M 11 4) 6 (M 11 5) 97 0 := ⟨_, rfl⟩
  rw [← hT]
  have L1 : ∀ (m : Nat) (s l p : Int) (x2 : PV) (M1 : Mem), Sp M M1 → M1 11 5 = s → M1 11 6 = p → 0 ≤ s → s ≤ M 11 4 → 97 ≤ l → 103 - l ≤ m → inr l → rdp (M 14) (M 11 4) m s l p = T →
      Runs sx_X7_readsPaper L (xcF scr) (fun x M' => x = T.1 ∧ M' 11 5 = T.2.1 ∧ M' 11 6 = T.2.2 ∧ Sp M M') 8 [wR 11, wI l, x2] [] M1 := by
    intro m
    induction m with
    | zero =>
      intro s l p x2 M1 hS h5 h6 hs1 hs2 hl hm hr e
      have e : (1, s, p) = T := e
      have pd1 := hS.pd pd
      have t4 := hS.1 4 (by omega) (by omega)
      refine R_aload_n (q := 9) (i := 0) rfl rfl rfl rfl ?_
      refine R_iload_n (q := 10) (i := 1) rfl rfl rfl rfl ?_
      refine R_bipush (q := 12) rfl rfl (by decide) ?_
      refine R_cV2I (q := 15) (ci := 7) (C := C_X7_isHere) rfl rfl rfl rfl rfl ⟨_, _, _, rfl, ⟨rfl, pd1, by have := pd.1; omega, hr, by omega⟩⟩ rfl rfl (by omega) (fun x M' hc => ?_)
      replace hc := hc _ _ _ rfl
      obtain ⟨hc, rfl⟩ := hc
      unfold isH at hc
      refine R_if_eq (q := 18) (tgt := 105) rfl rfl (by decide) (by omega) (fun h15 => ?_) (fun h15 => ?_)
      · refine R_iconst (q := 106) rfl rfl ?_
        refine R_ret rfl (Or.inr ⟨rfl, (Or.inr rfl)⟩) ?_
        rw [← e]
        exact ⟨rfl, h5, h6, hS⟩
      · omega
    | succ m ih =>
      intro s l p x2 M1 hS h5 h6 hs1 hs2 hl hm hr e
      have pd1 := hS.pd pd
      have t4 := hS.1 4 (by omega) (by omega)
      have e14 := hS.2 14 (by decide)
      have p60 := pd.1
      unfold rdp at e
      by_cases z1 : s < M 11 4 ∧ l ≤ M 14 s ∧ M 14 s ≤ 102
      · rw [if_pos z1] at e
        have H1 : isH M1 l 102 := by
          unfold isH
          rw [h5, t4, e14]
          exact z1
        have u5 : upM M1 11 5 (s + 1) 11 5 = s + 1 := upM_s
        have S2 : Sp M (upM M1 11 5 (s + 1)) := hS.tr Sp.u5
        have pd2 := S2.pd pd
        have t42 : upM M1 11 5 (s + 1) 11 4 = M 11 4 := S2.1 4 (by omega) (by omega)
        have e142 : upM M1 11 5 (s + 1) 14 = M 14 := S2.2 14 (by decide)
        by_cases z2 : s + 1 < M 11 4 ∧ 49 ≤ M 14 (s + 1) ∧ M 14 (s + 1) ≤ 57
        · rw [if_pos z2] at e
          have H2 : isH (upM M1 11 5 (s + 1)) 49 57 := by
            unfold isH
            rw [u5, t42, e142]
            exact z2
          refine R_aload_n (q := 9) (i := 0) rfl rfl rfl rfl ?_
          refine R_iload_n (q := 10) (i := 1) rfl rfl rfl rfl ?_
          refine R_bipush (q := 12) rfl rfl (by decide) ?_
          refine R_cV2I (q := 15) (ci := 7) (C := C_X7_isHere) rfl rfl rfl rfl rfl ⟨_, _, _, rfl, ⟨rfl, pd1, by omega, hr, by omega⟩⟩ rfl rfl (by omega) (fun x M' hc => ?_)
          replace hc := hc _ _ _ rfl
          obtain ⟨hc, rfl⟩ := hc
          have hc : x = 1 := hc.elim (fun z => z.1) (fun z => absurd H1 z.2)
          subst hc
          refine R_if_eq (q := 18) (tgt := 105) rfl rfl (by decide) (by omega) (fun h15 => ?_) (fun h15 => ?_)
          · omega
          · refine R_aload_n (q := 19) (i := 0) rfl rfl rfl rfl ?_
            refine R_getR (q := 22) rfl rfl rfl rfl rfl (by omega) ?_
            refine R_aload_n (q := 23) (i := 0) rfl rfl rfl rfl ?_
            refine R_getI (q := 26) (k1 := 5) rfl rfl rfl rfl rfl (by omega) rfl ?_
            refine R_iald (q := 27) (v := M 14 s) rfl rfl rfl (by omega) (by rw [h5]; omega) (by rw [h5, e14]) ?_
            refine R_bipush (q := 29) rfl rfl (by decide) ?_
            refine R_isub (q := 30) rfl rfl ?_
            refine R_istore_n (q := 31) (i := 2) rfl rfl rfl rfl ?_
            refine R_aload_n (q := 32) (i := 0) rfl rfl rfl rfl ?_
            refine R_getR (q := 35) rfl rfl rfl rfl rfl (by omega) ?_
            refine R_aload_n (q := 36) (i := 0) rfl rfl rfl rfl ?_
            refine R_getI (q := 39) (k1 := 5) rfl rfl rfl rfl rfl (by omega) rfl ?_
            refine R_iald (q := 40) (v := M 14 s) rfl rfl rfl (by omega) (by rw [h5]; omega) (by rw [h5, e14]) ?_
            refine R_iconst (q := 41) rfl rfl ?_
            refine R_iadd (q := 42) rfl rfl ?_
            refine R_istore_n (q := 43) (i := 1) rfl rfl rfl rfl ?_
            refine R_aload_n (q := 44) (i := 0) rfl rfl rfl rfl ?_
            refine R_dup (q := 45) rfl rfl rfl ?_
            refine R_getI (q := 48) (k1 := 5) rfl rfl rfl rfl rfl (by omega) rfl ?_
            refine R_iconst (q := 49) rfl rfl ?_
            refine R_iadd (q := 50) rfl rfl ?_
            refine R_putI (q := 53) (k1 := 5) (M2 := upM M1 11 5 (s + 1)) rfl rfl rfl rfl rfl (by omega) rfl rfl rfl (by rw [h5]) ?_
            refine R_aload_n (q := 54) (i := 0) rfl rfl rfl rfl ?_
            refine R_bipush (q := 56) rfl rfl (by decide) ?_
            refine R_bipush (q := 58) rfl rfl (by decide) ?_
            refine R_cV2I (q := 61) (ci := 7) (C := C_X7_isHere) rfl rfl rfl rfl rfl ⟨_, _, _, rfl, ⟨rfl, pd2, by rw [u5]; omega, by omega, by omega⟩⟩ rfl rfl (by omega) (fun x M' hc => ?_)
            replace hc := hc _ _ _ rfl
            obtain ⟨hc, rfl⟩ := hc
            have hc : x = 1 := hc.elim (fun z => z.1) (fun z => absurd H2 z.2)
            subst hc
            refine R_if_ne (q := 64) (tgt := 66) rfl rfl (by decide) (by omega) (fun h61 => ?_) (fun h61 => ?_)
            · refine R_aload_n (q := 67) (i := 0) rfl rfl rfl rfl ?_
              refine R_dup (q := 68) rfl rfl rfl ?_
              refine R_getI (q := 71) (k1 := 6) rfl rfl rfl rfl rfl (by omega) rfl ?_
              refine R_aload_n (q := 72) (i := 0) rfl rfl rfl rfl ?_
              refine R_getR (q := 75) rfl rfl rfl rfl rfl (by omega) ?_
              refine R_aload_n (q := 76) (i := 0) rfl rfl rfl rfl ?_
              refine R_getI (q := 79) (k1 := 5) rfl rfl rfl rfl rfl (by omega) rfl ?_
              refine R_iald (q := 80) (v := M 14 (s + 1)) rfl rfl rfl (by omega) (by rw [u5]; omega) (by rw [u5, e142]) ?_
              refine R_bipush (q := 82) rfl rfl (by decide) ?_
              refine R_isub (q := 83) rfl rfl ?_
              refine R_iload_n (q := 84) (i := 2) rfl rfl rfl rfl ?_
              refine R_cS1I (q := 87) (ci := 9) (C := C_X7_power) rfl rfl rfl rfl rfl ⟨_, rfl, (by omega)⟩ rfl rfl (fun x M' hc => ?_)
              replace hc := hc _ rfl
              try simp only [sh_mr, mr_mr] at hc
              obtain ⟨rfl, rfl⟩ := hc
              refine R_imul (q := 88) rfl rfl ?_
              refine R_iadd (q := 89) rfl rfl ?_
              refine R_putI (q := 92) (k1 := 6) rfl rfl rfl rfl rfl (by omega) rfl rfl rfl rfl ?_
              refine R_aload_n (q := 93) (i := 0) rfl rfl rfl rfl ?_
              refine R_dup (q := 94) rfl rfl rfl ?_
              refine R_getI (q := 97) (k1 := 5) rfl rfl rfl rfl rfl (by omega) rfl ?_
              refine R_iconst (q := 98) rfl rfl ?_
              refine R_iadd (q := 99) rfl rfl ?_
              refine R_putI (q := 102) (k1 := 5) rfl rfl rfl rfl rfl (by omega) rfl rfl rfl rfl ?_
              refine R_goto (q := 105) (tgt := 8) rfl rfl (by decide) ?_
              refine ih (s + 2) (M 14 s + 1) (p + (M 14 (s + 1) - 48) * pw (M 14 s - 97)) _ _ ((S2.tr Sp.u6).tr Sp.u5) ?_ ?_ (by omega) (by omega) (by omega) (by omega) (by omega) e
              · rw [upM_s, upM_k (by omega), u5]
                omega
              · rw [upM_k (by omega), upM_s, upM_k (by omega), h6]
            · omega
        · rw [if_neg z2] at e
          have H2 : ¬ isH (upM M1 11 5 (s + 1)) 49 57 := by
            unfold isH
            rw [u5, t42, e142]
            exact z2
          refine R_aload_n (q := 9) (i := 0) rfl rfl rfl rfl ?_
          refine R_iload_n (q := 10) (i := 1) rfl rfl rfl rfl ?_
          refine R_bipush (q := 12) rfl rfl (by decide) ?_
          refine R_cV2I (q := 15) (ci := 7) (C := C_X7_isHere) rfl rfl rfl rfl rfl ⟨_, _, _, rfl, ⟨rfl, pd1, by omega, hr, by omega⟩⟩ rfl rfl (by omega) (fun x M' hc => ?_)
          replace hc := hc _ _ _ rfl
          obtain ⟨hc, rfl⟩ := hc
          have hc : x = 1 := hc.elim (fun z => z.1) (fun z => absurd H1 z.2)
          subst hc
          refine R_if_eq (q := 18) (tgt := 105) rfl rfl (by decide) (by omega) (fun h15 => ?_) (fun h15 => ?_)
          · omega
          · refine R_aload_n (q := 19) (i := 0) rfl rfl rfl rfl ?_
            refine R_getR (q := 22) rfl rfl rfl rfl rfl (by omega) ?_
            refine R_aload_n (q := 23) (i := 0) rfl rfl rfl rfl ?_
            refine R_getI (q := 26) (k1 := 5) rfl rfl rfl rfl rfl (by omega) rfl ?_
            refine R_iald (q := 27) (v := M 14 s) rfl rfl rfl (by omega) (by rw [h5]; omega) (by rw [h5, e14]) ?_
            refine R_bipush (q := 29) rfl rfl (by decide) ?_
            refine R_isub (q := 30) rfl rfl ?_
            refine R_istore_n (q := 31) (i := 2) rfl rfl rfl rfl ?_
            refine R_aload_n (q := 32) (i := 0) rfl rfl rfl rfl ?_
            refine R_getR (q := 35) rfl rfl rfl rfl rfl (by omega) ?_
            refine R_aload_n (q := 36) (i := 0) rfl rfl rfl rfl ?_
            refine R_getI (q := 39) (k1 := 5) rfl rfl rfl rfl rfl (by omega) rfl ?_
            refine R_iald (q := 40) (v := M 14 s) rfl rfl rfl (by omega) (by rw [h5]; omega) (by rw [h5, e14]) ?_
            refine R_iconst (q := 41) rfl rfl ?_
            refine R_iadd (q := 42) rfl rfl ?_
            refine R_istore_n (q := 43) (i := 1) rfl rfl rfl rfl ?_
            refine R_aload_n (q := 44) (i := 0) rfl rfl rfl rfl ?_
            refine R_dup (q := 45) rfl rfl rfl ?_
            refine R_getI (q := 48) (k1 := 5) rfl rfl rfl rfl rfl (by omega) rfl ?_
            refine R_iconst (q := 49) rfl rfl ?_
            refine R_iadd (q := 50) rfl rfl ?_
            refine R_putI (q := 53) (k1 := 5) (M2 := upM M1 11 5 (s + 1)) rfl rfl rfl rfl rfl (by omega) rfl rfl rfl (by rw [h5]) ?_
            refine R_aload_n (q := 54) (i := 0) rfl rfl rfl rfl ?_
            refine R_bipush (q := 56) rfl rfl (by decide) ?_
            refine R_bipush (q := 58) rfl rfl (by decide) ?_
            refine R_cV2I (q := 61) (ci := 7) (C := C_X7_isHere) rfl rfl rfl rfl rfl ⟨_, _, _, rfl, ⟨rfl, pd2, by rw [u5]; omega, by omega, by omega⟩⟩ rfl rfl (by omega) (fun x M' hc => ?_)
            replace hc := hc _ _ _ rfl
            obtain ⟨hc, rfl⟩ := hc
            have hc : x = 0 := hc.elim (fun z => absurd z.2 H2) (fun z => z.1)
            subst hc
            refine R_if_ne (q := 64) (tgt := 66) rfl rfl (by decide) (by omega) (fun h61 => ?_) (fun h61 => ?_)
            · omega
            · refine R_iconst (q := 65) rfl rfl ?_
              refine R_ret rfl (Or.inr ⟨rfl, (Or.inl rfl)⟩) ?_
              rw [← e]
              exact ⟨rfl, u5, by rw [upM_k (by omega)]; exact h6, S2⟩
      · rw [if_neg z1] at e
        have H1 : ¬ isH M1 l 102 := by
          unfold isH
          rw [h5, t4, e14]
          exact z1
        refine R_aload_n (q := 9) (i := 0) rfl rfl rfl rfl ?_
        refine R_iload_n (q := 10) (i := 1) rfl rfl rfl rfl ?_
        refine R_bipush (q := 12) rfl rfl (by decide) ?_
        refine R_cV2I (q := 15) (ci := 7) (C := C_X7_isHere) rfl rfl rfl rfl rfl ⟨_, _, _, rfl, ⟨rfl, pd1, by omega, hr, by omega⟩⟩ rfl rfl (by omega) (fun x M' hc => ?_)
        replace hc := hc _ _ _ rfl
        obtain ⟨hc, rfl⟩ := hc
        have hc : x = 0 := hc.elim (fun z => absurd z.2 H1) (fun z => z.1)
        subst hc
        refine R_if_eq (q := 18) (tgt := 105) rfl rfl (by decide) (by omega) (fun h15 => ?_) (fun h15 => ?_)
        · refine R_iconst (q := 106) rfl rfl ?_
          refine R_ret rfl (Or.inr ⟨rfl, (Or.inr rfl)⟩) ?_
          rw [← e]
          exact ⟨rfl, h5, h6, hS⟩
        · omega
  refine R_aload_n (q := 1) (i := 0) rfl rfl rfl rfl ?_
  refine R_iconst (q := 2) rfl rfl ?_
  refine R_putI (q := 5) (k1 := 6) rfl rfl rfl rfl rfl (by omega) rfl rfl rfl rfl ?_
  refine R_bipush (q := 7) rfl rfl (by decide) ?_
  refine R_istore_n (q := 8) (i := 1) rfl rfl rfl rfl ?_
  exact L1 6 (M 11 5) 97 0 none _ Sp.u6 (upM_k (by omega)) upM_s p3.1 p3.2 (by omega) (by omega) (by omega) hT.symm
set_option maxRecDepth 100000 in
theorem mt_X7_readsPaper : MtOK yX7_readsPaper cX7_readsPaper 3 (some .boolean) 2 C_X7_readsPaper := by
  refine mt_of sx_X7_readsPaper (by decide +kernel) (Or.inr (Or.inl ⟨rfl, rfl, rfl⟩)) (by decide +kernel) fdX7_ok kLX7_ok kIX7_ok sgX7_ok ntX7_ok
    (all_cons (clokV mt_X7_isHere rfl (GT_at 637 (by decide +kernel) (by decide +kernel)) (GT_at 44 (by decide +kernel) (by decide +kernel)) (GT_at 640 (by decide +kernel) (by decide +kernel)) (by decide +kernel) (by decide) (GT_at 639 (by decide +kernel) (by decide +kernel)) (GT_at 13 (by decide +kernel) (by decide +kernel)) rfl rfl) (all_cons (clokS mt_X7_power (GT_at 652 (by decide +kernel) (by decide +kernel)) (GT_at 44 (by decide +kernel) (by decide +kernel)) (GT_at 654 (by decide +kernel) (by decide +kernel)) (by decide +kernel) (by decide) (GT_at 653 (by decide +kernel) (by decide +kernel))) (all_nil))) ?_ ?_
  · rintro as M - ⟨o, rfl, hp⟩
    exact Nat.le_of_ble_eq_true rfl
  · rintro L scr as M - ⟨o, rfl, hp⟩
    exact Runs.mono (fun x M' h _ e => by cases e; exact h) (ok_X7_readsPaper L scr o M hp)
