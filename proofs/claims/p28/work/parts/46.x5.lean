theorem GI.pd {M : Mem} (g : GI M) : PdC M := by
  obtain ⟨⟨-, -, -, -, -, e, h⟩, -, -, -, -, p1, p2⟩ := g
  unfold PdC
  rw [e]
  exact ⟨p1, fun i a b => by rw [h i a b]; exact p2 i a (by omega)⟩
/-- texts that are the same up to their length tell the same -/
def Cs (c d : Int → Int) (n : Int) : Prop := ∀ i, 0 ≤ i → i < n → c i = d i
theorem rdp_ge {c : Int → Int} {n : Int} : ∀ (m : Nat) (s l p : Int), s ≤ (rdp c n m s l p).2.1
  | 0, s, l, p => Int.le_refl _
  | m + 1, s, l, p => by
    unfold rdp
    split
    · split
      · have := rdp_ge (c := c) (n := n) m (s + 2) (c s + 1) (p + (c (s + 1) - 48) * pw (c s - 97))
        omega
      · show s ≤ s + 1
        omega
    · exact Int.le_refl _
theorem rdp_cs {c d : Int → Int} {n : Int} (h : Cs c d n) : ∀ (m : Nat) (s l p : Int), 0 ≤ s → rdp c n m s l p = rdp d n m s l p
  | 0, s, l, p, _ => rfl
  | m + 1, s, l, p, h0 => by
    unfold rdp
    by_cases e : s < n
    · rw [h s h0 e]
      by_cases e2 : s + 1 < n
      · rw [h (s + 1) (by omega) e2, rdp_cs h m (s + 2) (d s + 1) _ (by omega)]
      · rw [if_neg (c := s + 1 < n ∧ 49 ≤ c (s + 1) ∧ c (s + 1) ≤ 57) (fun z => e2 z.1), if_neg (c := s + 1 < n ∧ 49 ≤ d (s + 1) ∧ d (s + 1) ≤ 57) (fun z => e2 z.1)]
    · rw [if_neg (fun z => e z.1), if_neg (fun z => e z.1)]
theorem r1_cs {c d : Int → Int} {n : Int} (h : Cs c d n) : r1 c n = r1 d n := by
  rw [← r1_eq, ← r1_eq]
  exact rdp_cs h 6 2 97 0 (by omega)
theorem r1_ge (c : Int → Int) (n : Int) : 2 ≤ (r1 c n).2.1 := by
  rw [← r1_eq]
  exact rdp_ge 6 2 97 0
theorem r2_cs {c d : Int → Int} {n : Int} (h : Cs c d n) : r2 c n = r2 d n := by
  have := r1_ge c n
  rw [← r2_eq, ← r2_eq, ← r1_cs h]
  exact rdp_cs h 6 _ 97 0 (by omega)
theorem r2_ge (c : Int → Int) (n : Int) : 2 ≤ (r2 c n).2.1 := by
  have := r1_ge c n
  rw [← r2_eq]
  have := rdp_ge (c := c) (n := n) 6 ((r1 c n).2.1 + 1) 97 0
  omega
theorem r3_cs {c d : Int → Int} {n : Int} (h : Cs c d n) : r3 c n = r3 d n := by
  have := r2_ge c n
  rw [← r3_eq, ← r3_eq, ← r2_cs h]
  exact rdp_cs h 6 _ 97 0 (by omega)
theorem pTr_cs {c d : Int → Int} {n : Int} (h : Cs c d n) : pTr c n = pTr d n := by
  unfold pTr
  rw [r1_cs h, r2_cs h, r3_cs h]
theorem an_cg {i n : Int} {P Q : Prop} (h : i < n → (P ↔ Q)) : (i < n ∧ P) = (i < n ∧ Q) := propext ⟨fun z => ⟨z.1, (h z.1).mp z.2⟩, fun z => ⟨z.1, (h z.1).mpr z.2⟩⟩
theorem flt_cs {c d : Int → Int} {n : Int} (h : Cs c d n) : flt c n = flt d n := by
  have g1 := r1_ge d n
  have g2 := r2_ge d n
  have e0 : (0 < n ∧ 48 ≤ c 0 ∧ c 0 ≤ 52) = (0 < n ∧ 48 ≤ d 0 ∧ d 0 ≤ 52) := an_cg (fun z => by rw [h 0 (by omega) z])
  have e1 : (1 < n ∧ c 1 = 58) = (1 < n ∧ d 1 = 58) := an_cg (fun z => by rw [h 1 (by omega) z])
  have e2 : ((r1 d n).2.1 < n ∧ c (r1 d n).2.1 = 47) = ((r1 d n).2.1 < n ∧ d (r1 d n).2.1 = 47) := an_cg (fun z => by rw [h _ (by omega) z])
  have e3 : ((r2 d n).2.1 < n ∧ c (r2 d n).2.1 = 61) = ((r2 d n).2.1 < n ∧ d (r2 d n).2.1 = 61) := an_cg (fun z => by rw [h _ (by omega) z])
  unfold flt
  rw [r1_cs h, r2_cs h, r3_cs h]
  simp only [e0, e1, e2, e3]
theorem GI.cs {M : Mem} (g : GI M) : Cs (M 9) (M 14) (M 11 4) := g.1.2.2.2.2.2.2
theorem GI.fl {M : Mem} (g : GI M) : flt (M 9) (M 8 1) = flt (M 14) (M 11 4) := by
  rw [g.1.2.2.2.2.2.1]
  exact flt_cs g.cs
theorem G_len {M M' N : Mem} {v : Int} (g : GI M) (hC : ∀ r, r < 191 → r ≠ 8 → r ≠ 9 → M' r = M r) (hv : M' 8 1 = v) (hN : ∀ r, r ≠ 11 → r ≠ 14 → N r = M' r) (h1 : N 11 1 = M 11 1) (h4 : N 11 4 = v) (hb : 0 ≤ v ∧ v ≤ 60) (hp : ∀ i, 0 ≤ i → i < v → N 9 i = N 14 i) (hq : ∀ i, 0 ≤ i → i < 60 → 0 ≤ N 14 i ∧ N 14 i ≤ 255) : GI N := by
  obtain ⟨⟨c1, c2, c3, c4, c5, c6, c7⟩, r1, r2, r3, r4, r5, r6⟩ := g
  have e : ∀ r, r < 191 → r ≠ 8 → r ≠ 9 → r ≠ 11 → r ≠ 14 → N r = M r := fun r a b b9 c d => (hN r c d).trans (hC r a b b9)
  have e12 := e 12 (by omega) (by omega) (by omega) (by omega) (by omega)
  have f4 := e 4 (by omega) (by omega) (by omega) (by omega) (by omega)
  have eh := fun j => hs_e (M := M) (N := N) (fun r z => e r (by omega) (by omega) (by omega) (by omega) (by omega)) j
  refine ⟨⟨by rw [e12]; exact c1.off (fun r a b => e r (by omega) (by omega) (by omega) (by omega) (by omega)), by rw [f4]; exact c2, by rw [f4, h1]; exact c3, fun j a b => ?_, trivial, by rw [hN 8 (by omega) (by omega), hv, h4], by rw [h4]; exact hp⟩, by rw [e12]; exact r1, by rw [h1]; exact r2, fun j a b => ?_, trivial, by rw [h4]; exact hb, hq⟩
  · rw [h1] at b
    have hr := ring_b M (j - 1)
    rw [ring_e (congrFun f4 1), eh]
    exact (c4 j a b).off (fun r _ _ => e r (by omega) (by omega) (by omega) (by omega) (by omega))
  · rw [h1] at b
    rw [eh]
    exact r3 j a b
abbrev C_X6_wipe : Ct := (1, true, fun as M => ∃ (o : Nat), as = [wR o] ∧ (o = 3 ∧ GI M), fun as M x M' => ∀ (o : Nat), as = [wR o] → (Bo C_X7_wipe [wR 11] M M' x))
def sx_X6_wipe : Sx := (tb_X6_wipe, fdX6, kLX6, kIX6, sgX6, ntX6, [], 1)
set_option maxRecDepth 100000 in
set_option maxHeartbeats 1000000 in
theorem ok_X6_wipe (L : Nat) (scr : Int → Int) (o : Nat) (M : Mem) (hp : o = 3 ∧ GI M) : Runs sx_X6_wipe L (xcF scr) (fun x M' => Bo C_X7_wipe [wR 11] M M' x) 0 [wR o, none] [] M := by
  obtain ⟨rfl, g⟩ := hp
  refine R_aload_n (q := 1) (i := 0) rfl rfl rfl rfl ?_
  refine R_getR (q := 4) rfl rfl rfl rfl rfl (by omega) ?_
  refine R_getI (q := 7) (k1 := 1) rfl rfl rfl rfl rfl (by omega) rfl ?_
  refine R_istore_n (q := 8) (i := 1) rfl rfl rfl rfl ?_
  refine R_aload_n (q := 9) (i := 0) rfl rfl rfl rfl ?_
  refine R_getR (q := 12) rfl rfl rfl rfl rfl (by omega) ?_
  refine R_iconst (q := 13) rfl rfl ?_
  refine R_putI (q := 16) (k1 := 1) rfl rfl rfl rfl rfl (by omega) rfl rfl rfl rfl ?_
  refine R_iload_n (q := 17) (i := 1) rfl rfl rfl rfl ?_
  refine R_ret rfl (Or.inl rfl) ?_
  refine ⟨fun r a b => upM_r (by omega), fun y N q => ?_⟩
  obtain ⟨rfl, rfl⟩ := q 11 rfl
  refine ⟨by rw [upM_r (by omega)]; exact g.1.2.2.2.2.2.1, ?_⟩
  refine G_len (M' := upM M 8 1 0) (v := 0) g (fun r _ a _ => upM_r a) upM_s (fun r a _ => upM_r a) ?_ upM_s (by omega) (fun i a b => by omega) (fun i a b => ?_)
  · rw [upM_k (by omega), upM_r (by omega)]
  · rw [upM_r (by omega), upM_r (by omega)]
    exact g.2.2.2.2.2.2 i a b
set_option maxRecDepth 100000 in
theorem mt_X6_wipe : MtOK yX6_wipe cX6_wipe 2 (some .int) 0 C_X6_wipe := by
  refine mt_of sx_X6_wipe (by decide +kernel) (Or.inl ⟨rfl, rfl, rfl⟩) (by decide +kernel) fdX6_ok kLX6_ok kIX6_ok sgX6_ok ntX6_ok
    (all_nil) ?_ ?_
  · rintro as M - ⟨o, rfl, hp⟩
    exact Nat.le_of_ble_eq_true rfl
  · rintro L scr as M - ⟨o, rfl, hp⟩
    exact Runs.mono (fun x M' h _ e => by cases e; exact h) (ok_X6_wipe L scr o M hp)
abbrev C_X6_mostDoubted : Ct := (1, true, fun as M => ∃ (o : Nat), as = [wR o] ∧ (o = 3 ∧ GI M), fun as M x M' => ∀ (o : Nat), as = [wR o] → (Bo C_X7_mostDoubted [wR 11] M M' x))
def sx_X6_mostDoubted : Sx := (tb_X6_mostDoubted, fdX6, kLX6, kIX6, sgX6, ntX6, [(104, (4, C_X4_isWaiting)), (117, (4, C_X4_doubtOf))], 1)
set_option maxRecDepth 100000 in
set_option maxHeartbeats 1000000 in
theorem ok_X6_mostDoubted (L : Nat) (scr : Int → Int) (o : Nat) (M : Mem) (hp : o = 3 ∧ GI M) : Runs sx_X6_mostDoubted L (xcF scr) (fun x M' => Bo C_X7_mostDoubted [wR 11] M M' x) 0 [wR o, none, none, none] [] M := by
  obtain ⟨rfl, g⟩ := hp
  have i7 := g.i7
  have e7 : M 26 0 = M 12 7 := g.1.1.ca
  have I := g.2.1.1
  have L1 : ∀ (n k : Nat) (m : Int), k + n = (M 12 7).toNat → m = (if mdb (M 12) k = -6 then -1 else dbt (M 12) (mdb (M 12) k)) → Runs sx_X6_mostDoubted L (xcF scr) (fun x M' => Bo C_X7_mostDoubted [wR 11] M M' x) 7 [wR 3, wI (mdb (M 12) k), wI m, wI (k : Int)] [] M := by
    intro n
    induction n with
    | zero =>
      intro k m hk hm
      refine R_iload_n (q := 8) (i := 3) rfl rfl rfl rfl ?_
      refine R_aload_n (q := 9) (i := 0) rfl rfl rfl rfl ?_
      refine R_getR (q := 12) rfl rfl rfl rfl rfl (by omega) ?_
      refine R_getR (q := 15) rfl rfl rfl (lay0 st15) rfl (by omega) ?_
      refine R_getI (q := 18) (k1 := 0) rfl rfl rfl (lay_tk (tkI st15)) rfl (by omega) rfl ?_
      rw [show M (15 + 11) 0 = M 12 7 from e7]
      refine R_icmp_ge (q := 21) (tgt := 61) rfl rfl (by decide) (by omega) (by omega) (fun h18 => ?_) (fun h18 => ?_)
      · refine R_iload_n (q := 62) (i := 1) rfl rfl rfl rfl ?_
        refine R_ret rfl (Or.inl rfl) ?_
        refine Bo_sm g SmC.rf (fun y N q => ?_)
        obtain ⟨rfl, rfl⟩ := q 11 rfl
        exact ⟨by rw [← hk]; rfl, SmR.rf⟩
      · omega
    | succ n ih =>
      intro k m hk hm
      have mb := mdb_bd (f := M 12) k
      have dk := dbt_bd I.1 (t := (k : Int)) (by omega)
      have hm2 : mdb (M 12) k = -6 ∧ m = -1 ∨ mdb (M 12) k ≠ -6 ∧ m = dbt (M 12) (mdb (M 12) k) := by
        by_cases z : mdb (M 12) k = -6
        · rw [if_pos z] at hm
          exact Or.inl ⟨z, hm⟩
        · rw [if_neg z] at hm
          exact Or.inr ⟨z, hm⟩
      have mr : inr m := by
        rcases hm2 with ⟨_, z⟩ | ⟨z1, z⟩
        · omega
        · have := dbt_bd I.1 (t := mdb (M 12) k) (by omega)
          omega
      have e1 : ∀ n : Nat, mdb (M 12) (n + 1) = if M 12 (90 + 9 * (n : Int)) = 0 ∧ (mdb (M 12) n = -6 ∨ dbt (M 12) (mdb (M 12) n) < dbt (M 12) (n : Int)) then (n : Int) else mdb (M 12) n := fun n => rfl
      have ks : ((k + 1 : Nat) : Int) = (k : Int) + 1 := by omega
      refine R_iload_n (q := 8) (i := 3) rfl rfl rfl rfl ?_
      refine R_aload_n (q := 9) (i := 0) rfl rfl rfl rfl ?_
      refine R_getR (q := 12) rfl rfl rfl rfl rfl (by omega) ?_
      refine R_getR (q := 15) rfl rfl rfl (lay0 st15) rfl (by omega) ?_
      refine R_getI (q := 18) (k1 := 0) rfl rfl rfl (lay_tk (tkI st15)) rfl (by omega) rfl ?_
      rw [show M (15 + 11) 0 = M 12 7 from e7]
      refine R_icmp_ge (q := 21) (tgt := 61) rfl rfl (by decide) (by omega) (by omega) (fun h18 => ?_) (fun h18 => ?_)
      · omega
      · refine R_aload_n (q := 22) (i := 0) rfl rfl rfl rfl ?_
        refine R_getR (q := 25) rfl rfl rfl rfl rfl (by omega) ?_
        refine R_iload_n (q := 26) (i := 3) rfl rfl rfl rfl ?_
        refine R_gh (M 12) ?_
        refine R_cV1I (q := 29) (ci := 4) (C := C_X4_isWaiting) rfl rfl rfl rfl rfl ⟨_, _, rfl, ⟨g.si, by omega⟩⟩ rfl (lay0 st15) (by omega) (fun x M' hc => ?_)
        replace hc := hc _ _ rfl
        obtain ⟨hc, rfl⟩ := hc
        rw [gho_g] at hc
        replace hc := w01 hc
        refine R_un ?_
        refine R_if_eq (q := 32) (tgt := 55) rfl rfl (by decide) (by omega) (fun h29 => ?_) (fun h29 => ?_)
        · refine R_iinc (q := 58) rfl rfl rfl rfl ?_
          refine R_goto (q := 61) (tgt := 7) rfl rfl (by decide) ?_
          have c0 : (7 : Int) = 7 := rfl
          first
            | (have e : mdb (M 12) (k + 1) = (k : Int) := by rw [e1]; exact if_pos (by omega)
               have := ih (k + 1) (dbt (M 12) (k : Int)) (by omega) (by rw [e, if_neg (by omega)])
               rw [e, ks] at this
               exact this)
            | (have e : mdb (M 12) (k + 1) = mdb (M 12) k := by rw [e1]; exact if_neg (by omega)
               have := ih (k + 1) m (by omega) (by rw [e]; exact hm)
               rw [e, ks] at this
               exact this)
        · refine R_aload_n (q := 33) (i := 0) rfl rfl rfl rfl ?_
          refine R_getR (q := 36) rfl rfl rfl rfl rfl (by omega) ?_
          refine R_iload_n (q := 37) (i := 3) rfl rfl rfl rfl ?_
          refine R_gh (M 12) ?_
          refine R_cV1I (q := 40) (ci := 4) (C := C_X4_doubtOf) rfl rfl rfl rfl rfl ⟨_, _, rfl, ⟨g.si, by rw [gho_g]; omega⟩⟩ rfl (lay0 st15) (by omega) (fun x M' hc => ?_)
          replace hc := hc _ _ rfl
          obtain ⟨hc, rfl⟩ := hc
          simp only [gho_g] at hc
          subst hc
          refine R_un ?_
          refine R_iload_n (q := 41) (i := 2) rfl rfl rfl rfl ?_
          refine R_icmp_le (q := 44) (tgt := 55) rfl rfl (by decide) (by omega) (by omega) (fun h41 => ?_) (fun h41 => ?_)
          · refine R_iinc (q := 58) rfl rfl rfl rfl ?_
            refine R_goto (q := 61) (tgt := 7) rfl rfl (by decide) ?_
            have c0 : (7 : Int) = 7 := rfl
            first
              | (have e : mdb (M 12) (k + 1) = (k : Int) := by rw [e1]; exact if_pos (by omega)
                 have := ih (k + 1) (dbt (M 12) (k : Int)) (by omega) (by rw [e, if_neg (by omega)])
                 rw [e, ks] at this
                 exact this)
              | (have e : mdb (M 12) (k + 1) = mdb (M 12) k := by rw [e1]; exact if_neg (by omega)
                 have := ih (k + 1) m (by omega) (by rw [e]; exact hm)
                 rw [e, ks] at this
                 exact this)
          · refine R_iload_n (q := 45) (i := 3) rfl rfl rfl rfl ?_
            refine R_istore_n (q := 46) (i := 1) rfl rfl rfl rfl ?_
            refine R_aload_n (q := 47) (i := 0) rfl rfl rfl rfl ?_
            refine R_getR (q := 50) rfl rfl rfl rfl rfl (by omega) ?_
            refine R_iload_n (q := 51) (i := 3) rfl rfl rfl rfl ?_
            refine R_gh (M 12) ?_
            refine R_cV1I (q := 54) (ci := 4) (C := C_X4_doubtOf) rfl rfl rfl rfl rfl ⟨_, _, rfl, ⟨g.si, by rw [gho_g]; omega⟩⟩ rfl (lay0 st15) (by omega) (fun x M' hc => ?_)
            replace hc := hc _ _ rfl
            obtain ⟨hc, rfl⟩ := hc
            simp only [gho_g] at hc
            subst hc
            refine R_un ?_
            refine R_istore_n (q := 55) (i := 2) rfl rfl rfl rfl ?_
            refine R_iinc (q := 58) rfl rfl rfl rfl ?_
            refine R_goto (q := 61) (tgt := 7) rfl rfl (by decide) ?_
            have c0 : (7 : Int) = 7 := rfl
            first
              | (have e : mdb (M 12) (k + 1) = (k : Int) := by rw [e1]; exact if_pos (by omega)
                 have := ih (k + 1) (dbt (M 12) (k : Int)) (by omega) (by rw [e, if_neg (by omega)])
                 rw [e, ks] at this
                 exact this)
              | (have e : mdb (M 12) (k + 1) = mdb (M 12) k := by rw [e1]; exact if_neg (by omega)
                 have := ih (k + 1) m (by omega) (by rw [e]; exact hm)
                 rw [e, ks] at this
                 exact this)
  refine R_bipush (q := 2) rfl rfl (by decide) ?_
  refine R_istore_n (q := 3) (i := 1) rfl rfl rfl rfl ?_
  refine R_iconst (q := 4) rfl rfl ?_
  refine R_istore_n (q := 5) (i := 2) rfl rfl rfl rfl ?_
  refine R_iconst (q := 6) rfl rfl ?_
  refine R_istore_n (q := 7) (i := 3) rfl rfl rfl rfl ?_
  exact L1 (M 12 7).toNat 0 (-1) (by omega) rfl
set_option maxRecDepth 100000 in
theorem mt_X6_mostDoubted : MtOK yX6_mostDoubted cX6_mostDoubted 4 (some .int) 3 C_X6_mostDoubted := by
  refine mt_of sx_X6_mostDoubted (by decide +kernel) (Or.inl ⟨rfl, rfl, rfl⟩) (by decide +kernel) fdX6_ok kLX6_ok kIX6_ok sgX6_ok ntX6_ok
    (all_cons (clokV mt_X4_isWaiting rfl (GT_at 360 (by decide +kernel) (by decide +kernel)) (GT_at 12 (by decide +kernel) (by decide +kernel)) (GT_at 363 (by decide +kernel) (by decide +kernel)) (by decide +kernel) (by decide) (GT_at 361 (by decide +kernel) (by decide +kernel)) (GT_at 362 (by decide +kernel) (by decide +kernel)) rfl rfl) (all_cons (clokV mt_X4_doubtOf rfl (GT_at 369 (by decide +kernel) (by decide +kernel)) (GT_at 12 (by decide +kernel) (by decide +kernel)) (GT_at 372 (by decide +kernel) (by decide +kernel)) (by decide +kernel) (by decide) (GT_at 370 (by decide +kernel) (by decide +kernel)) (GT_at 371 (by decide +kernel) (by decide +kernel)) rfl rfl) (all_nil))) ?_ ?_
  · rintro as M - ⟨o, rfl, hp⟩
    exact Nat.le_of_ble_eq_true rfl
  · rintro L scr as M - ⟨o, rfl, hp⟩
    exact Runs.mono (fun x M' h _ e => by cases e; exact h) (ok_X6_mostDoubted L scr o M hp)
