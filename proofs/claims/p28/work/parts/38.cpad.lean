/-! the class's pad -/
def PdC (M : Mem) : Prop := (0 ≤ M 8 1 ∧ M 8 1 ≤ 60) ∧ ∀ i, 0 ≤ i → i < M 8 1 → 0 ≤ M 9 i ∧ M 9 i ≤ 255
def SpK (M N : Mem) : Prop := (∀ k, k ≠ 2 → k ≠ 4 → N 8 k = M 8 k) ∧ ∀ r, r ≠ 8 → r ≠ 10 → N r = M r
theorem SpK.rf {M : Mem} : SpK M M := ⟨fun _ _ _ => rfl, fun _ _ _ => rfl⟩
theorem SpK.tr {M M1 M2 : Mem} (h : SpK M M1) (k : SpK M1 M2) : SpK M M2 := ⟨fun i a b => (k.1 i a b).trans (h.1 i a b), fun r a b => (k.2 r a b).trans (h.2 r a b)⟩
theorem SpK.u4 {M : Mem} {x : Int} : SpK M (upM M 8 4 x) := ⟨fun k _ a => upM_k a, fun r a _ => upM_r a⟩
theorem SpK.u2 {M : Mem} {x : Int} : SpK M (upM M 8 2 x) := ⟨fun k a _ => upM_k a, fun r a _ => upM_r a⟩
theorem SpK.up {M : Mem} {k x : Int} : SpK M (upM M 10 k x) := ⟨fun k _ _ => congrFun (upM_r (by omega)) k, fun r _ a => upM_r a⟩
theorem SpK.pd {M M1 : Mem} (h : SpK M M1) (p : PdC M) : PdC M1 := by
  unfold PdC
  rw [h.1 1 (by omega) (by omega), h.2 9 (by omega) (by omega)]
  exact p
theorem upM_self {M : Mem} {r : Nat} {k x : Int} (h : x = M r k) : upM M r k x = M := by
  subst h
  funext r' k'
  unfold upM
  split
  · rename_i z
    rw [z.1, z.2]
  · rfl
abbrev C_X2_append : Ct := (2, false, fun as M => ∃ (o : Nat) (ch : Int), as = [wR o, wI ch] ∧ (o = 8 ∧ (0 ≤ M 8 1 ∧ M 8 1 < 60) ∧ 0 ≤ ch ∧ ch < 65536), fun as M x M' => ∀ (o : Nat) (ch : Int), as = [wR o, wI ch] → ((upM (upM M 9 (M 8 1) ch) 8 1 (M 8 1 + 1)) = M'))
def sx_X2_append : Sx := (tb_X2_append, fdX2, kLX2, kIX2, sgX2, ntX2, [], 0)
set_option maxRecDepth 100000 in
set_option maxHeartbeats 1000000 in
theorem ok_X2_append (L : Nat) (scr : Int → Int) (o : Nat) (ch : Int) (M : Mem) (hp : o = 8 ∧ (0 ≤ M 8 1 ∧ M 8 1 < 60) ∧ 0 ≤ ch ∧ ch < 65536) : Runs sx_X2_append L (xcF scr) (fun x M' => (upM (upM M 9 (M 8 1) ch) 8 1 (M 8 1 + 1)) = M') 0 [wR o, wI ch] [] M := by
  obtain ⟨rfl, h1, h2⟩ := hp
  refine R_aload_n (q := 1) (i := 0) rfl rfl rfl rfl ?_
  refine R_getI (q := 4) (k1 := 1) rfl rfl rfl rfl rfl (by omega) rfl ?_
  refine R_bipush (q := 6) rfl rfl (by decide) ?_
  refine R_icmp_ge (q := 9) (tgt := 29) rfl rfl (by decide) (by omega) (by omega) (fun h6 => ?_) (fun h6 => ?_)
  · omega
  · refine R_aload_n (q := 10) (i := 0) rfl rfl rfl rfl ?_
    refine R_getR (q := 13) rfl rfl rfl rfl rfl (by omega) ?_
    refine R_aload_n (q := 14) (i := 0) rfl rfl rfl rfl ?_
    refine R_getI (q := 17) (k1 := 1) rfl rfl rfl rfl rfl (by omega) rfl ?_
    refine R_iload_n (q := 18) (i := 1) rfl rfl rfl rfl ?_
    refine R_cast (q := 19) rfl rfl rfl (by omega) (by omega) (by omega) rfl ?_
    refine R_aload_n (q := 20) (i := 0) rfl rfl rfl rfl ?_
    refine R_dup (q := 21) rfl rfl rfl ?_
    refine R_getI (q := 24) (k1 := 1) rfl rfl rfl rfl rfl (by omega) rfl ?_
    refine R_iconst (q := 25) rfl rfl ?_
    refine R_iadd (q := 26) rfl rfl ?_
    refine R_putI (q := 29) (k1 := 1) rfl rfl rfl rfl rfl (by omega) rfl rfl rfl rfl ?_
    refine R_vret rfl rfl ?_
    rw [congrFun (upM_r (show (8 : Nat) ≠ 9 by decide)) 1]
set_option maxRecDepth 100000 in
theorem mt_X2_append : MtOK yX2_append cX2_append 2 none 0 C_X2_append := by
  refine mt_of sx_X2_append (by decide +kernel) (Or.inr (Or.inr ⟨rfl, rfl, rfl⟩)) (by decide +kernel) fdX2_ok kLX2_ok kIX2_ok sgX2_ok ntX2_ok
    (all_nil) ?_ ?_
  · rintro as M - ⟨o, ch, rfl, hp⟩
    exact Nat.le_of_ble_eq_true rfl
  · rintro L scr as M - ⟨o, ch, rfl, hp⟩
    exact Runs.mono (fun x M' h _ _ e => by cases e; exact h) (ok_X2_append L scr o ch M hp)
abbrev isN (M : Mem) (lo hi : Int) : Prop := M 8 4 < M 8 1 ∧ lo ≤ M 9 (M 8 4) ∧ M 9 (M 8 4) ≤ hi
abbrev C_X2_isNext : Ct := (3, true, fun as M => ∃ (o : Nat) (lo : Int) (hi : Int), as = [wR o, wI lo, wI hi] ∧ (o = 8 ∧ PdC M ∧ (0 ≤ M 8 4 ∧ M 8 4 ≤ 60) ∧ inr lo ∧ inr hi), fun as M x M' => ∀ (o : Nat) (lo : Int) (hi : Int), as = [wR o, wI lo, wI hi] → (((x = 1 ∧ isN M lo hi) ∨ (x = 0 ∧ ¬ isN M lo hi)) ∧ M = M'))
def sx_X2_isNext : Sx := (tb_X2_isNext, fdX2, kLX2, kIX2, sgX2, ntX2, [], 2)
set_option maxRecDepth 100000 in
set_option maxHeartbeats 1000000 in
theorem ok_X2_isNext (L : Nat) (scr : Int → Int) (o : Nat) (lo : Int) (hi : Int) (M : Mem) (hp : o = 8 ∧ PdC M ∧ (0 ≤ M 8 4 ∧ M 8 4 ≤ 60) ∧ inr lo ∧ inr hi) : Runs sx_X2_isNext L (xcF scr) (fun x M' => ((x = 1 ∧ isN M lo hi) ∨ (x = 0 ∧ ¬ isN M lo hi)) ∧ M = M') 0 [wR o, wI lo, wI hi] [] M := by
  obtain ⟨rfl, ⟨p1, p2⟩, p3, h1, h2⟩ := hp
  have p2' := p2 (M 8 4) p3.1
  refine R_aload_n (q := 1) (i := 0) rfl rfl rfl rfl ?_
  refine R_getI (q := 4) (k1 := 4) rfl rfl rfl rfl rfl (by omega) rfl ?_
  refine R_aload_n (q := 5) (i := 0) rfl rfl rfl rfl ?_
  refine R_getI (q := 8) (k1 := 1) rfl rfl rfl rfl rfl (by omega) rfl ?_
  refine R_icmp_ge (q := 11) (tgt := 41) rfl rfl (by decide) (by omega) (by omega) (fun h8 => ?_) (fun h8 => ?_)
  · refine R_iconst (q := 42) rfl rfl ?_
    refine R_ret rfl (Or.inr ⟨rfl, (by first | exact Or.inl rfl | exact Or.inr rfl | omega)⟩) ?_
    exact ⟨by first | exact Or.inl ⟨rfl, by omega, by omega, by omega⟩ | exact Or.inr ⟨rfl, by omega⟩, rfl⟩
  · refine R_aload_n (q := 12) (i := 0) rfl rfl rfl rfl ?_
    refine R_getR (q := 15) rfl rfl rfl rfl rfl (by omega) ?_
    refine R_aload_n (q := 16) (i := 0) rfl rfl rfl rfl ?_
    refine R_getI (q := 19) (k1 := 4) rfl rfl rfl rfl rfl (by omega) rfl ?_
    refine R_cald (q := 20) rfl rfl rfl (by omega) (by omega) rfl ?_
    refine R_iload_n (q := 21) (i := 1) rfl rfl rfl rfl ?_
    refine R_icmp_lt (q := 24) (tgt := 41) rfl rfl (by decide) (by omega) (by omega) (fun h21 => ?_) (fun h21 => ?_)
    · refine R_iconst (q := 42) rfl rfl ?_
      refine R_ret rfl (Or.inr ⟨rfl, (by first | exact Or.inl rfl | exact Or.inr rfl | omega)⟩) ?_
      exact ⟨by first | exact Or.inl ⟨rfl, by omega, by omega, by omega⟩ | exact Or.inr ⟨rfl, by omega⟩, rfl⟩
    · refine R_aload_n (q := 25) (i := 0) rfl rfl rfl rfl ?_
      refine R_getR (q := 28) rfl rfl rfl rfl rfl (by omega) ?_
      refine R_aload_n (q := 29) (i := 0) rfl rfl rfl rfl ?_
      refine R_getI (q := 32) (k1 := 4) rfl rfl rfl rfl rfl (by omega) rfl ?_
      refine R_cald (q := 33) rfl rfl rfl (by omega) (by omega) rfl ?_
      refine R_iload_n (q := 34) (i := 2) rfl rfl rfl rfl ?_
      refine R_icmp_gt (q := 37) (tgt := 41) rfl rfl (by decide) (by omega) (by omega) (fun h34 => ?_) (fun h34 => ?_)
      · refine R_iconst (q := 42) rfl rfl ?_
        refine R_ret rfl (Or.inr ⟨rfl, (by first | exact Or.inl rfl | exact Or.inr rfl | omega)⟩) ?_
        exact ⟨by first | exact Or.inl ⟨rfl, by omega, by omega, by omega⟩ | exact Or.inr ⟨rfl, by omega⟩, rfl⟩
      · refine R_iconst (q := 38) rfl rfl ?_
        refine R_goto (q := 41) (tgt := 42) rfl rfl (by decide) ?_
        refine R_ret rfl (Or.inr ⟨rfl, (by first | exact Or.inl rfl | exact Or.inr rfl | omega)⟩) ?_
        exact ⟨by first | exact Or.inl ⟨rfl, by omega, by omega, by omega⟩ | exact Or.inr ⟨rfl, by omega⟩, rfl⟩
set_option maxRecDepth 100000 in
theorem mt_X2_isNext : MtOK yX2_isNext cX2_isNext 3 (some .boolean) 0 C_X2_isNext := by
  refine mt_of sx_X2_isNext (by decide +kernel) (Or.inr (Or.inl ⟨rfl, rfl, rfl⟩)) (by decide +kernel) fdX2_ok kLX2_ok kIX2_ok sgX2_ok ntX2_ok
    (all_nil) ?_ ?_
  · rintro as M - ⟨o, lo, hi, rfl, hp⟩
    exact Nat.le_of_ble_eq_true rfl
  · rintro L scr as M - ⟨o, lo, hi, rfl, hp⟩
    exact Runs.mono (fun x M' h _ _ _ e => by cases e; exact h) (ok_X2_isNext L scr o lo hi M hp)
abbrev C_X2_skips : Ct := (2, true, fun as M => ∃ (o : Nat) (ch : Int), as = [wR o, wI ch] ∧ (o = 8 ∧ PdC M ∧ (0 ≤ M 8 4 ∧ M 8 4 ≤ 60) ∧ inr ch), fun as M x M' => ∀ (o : Nat) (ch : Int), as = [wR o, wI ch] → (((x = 1 ∧ M 8 4 < M 8 1 ∧ M 9 (M 8 4) = ch) ∨ (x = 0 ∧ ¬ (M 8 4 < M 8 1 ∧ M 9 (M 8 4) = ch))) ∧ M' = upM M 8 4 (M 8 4 + x)))
def sx_X2_skips : Sx := (tb_X2_skips, fdX2, kLX2, kIX2, sgX2, ntX2, [(26, (2, C_X2_isNext))], 2)
set_option maxRecDepth 100000 in
set_option maxHeartbeats 1000000 in
theorem ok_X2_skips (L : Nat) (scr : Int → Int) (o : Nat) (ch : Int) (M : Mem) (hp : o = 8 ∧ PdC M ∧ (0 ≤ M 8 4 ∧ M 8 4 ≤ 60) ∧ inr ch) : Runs sx_X2_skips L (xcF scr) (fun x M' => ((x = 1 ∧ M 8 4 < M 8 1 ∧ M 9 (M 8 4) = ch) ∨ (x = 0 ∧ ¬ (M 8 4 < M 8 1 ∧ M 9 (M 8 4) = ch))) ∧ M' = upM M 8 4 (M 8 4 + x)) 0 [wR o, wI ch] [] M := by
  obtain ⟨rfl, pd, p3, h1⟩ := hp
  refine R_aload_n (q := 1) (i := 0) rfl rfl rfl rfl ?_
  refine R_iload_n (q := 2) (i := 1) rfl rfl rfl rfl ?_
  refine R_iload_n (q := 3) (i := 1) rfl rfl rfl rfl ?_
  refine R_cV2I (q := 6) (ci := 2) (C := C_X2_isNext) rfl rfl rfl rfl rfl ⟨_, _, _, rfl, ⟨rfl, pd, p3, h1, h1⟩⟩ rfl rfl (by omega) (fun x M' hc => ?_)
  replace hc := hc _ _ _ rfl
  obtain ⟨hc, rfl⟩ := hc
  refine R_if_ne (q := 9) (tgt := 11) rfl rfl (by decide) (by omega) (fun h6 => ?_) (fun h6 => ?_)
  · refine R_aload_n (q := 12) (i := 0) rfl rfl rfl rfl ?_
    refine R_dup (q := 13) rfl rfl rfl ?_
    refine R_getI (q := 16) (k1 := 4) rfl rfl rfl rfl rfl (by omega) rfl ?_
    refine R_iconst (q := 17) rfl rfl ?_
    refine R_iadd (q := 18) rfl rfl ?_
    refine R_putI (q := 21) (k1 := 4) rfl rfl rfl rfl rfl (by omega) rfl rfl rfl rfl ?_
    refine R_iconst (q := 22) rfl rfl ?_
    refine R_ret rfl (Or.inr ⟨rfl, (by first | exact Or.inl rfl | exact Or.inr rfl | omega)⟩) ?_
    refine ⟨by omega, ?_⟩
    first | rfl | exact (upM_self (by omega)).symm
  · refine R_iconst (q := 10) rfl rfl ?_
    refine R_ret rfl (Or.inr ⟨rfl, (by first | exact Or.inl rfl | exact Or.inr rfl | omega)⟩) ?_
    refine ⟨by omega, ?_⟩
    first | rfl | exact (upM_self (by omega)).symm
set_option maxRecDepth 100000 in
theorem mt_X2_skips : MtOK yX2_skips cX2_skips 2 (some .boolean) 1 C_X2_skips := by
  refine mt_of sx_X2_skips (by decide +kernel) (Or.inr (Or.inl ⟨rfl, rfl, rfl⟩)) (by decide +kernel) fdX2_ok kLX2_ok kIX2_ok sgX2_ok ntX2_ok
    (all_cons (clokV mt_X2_isNext rfl (GT_at 226 (by decide +kernel) (by decide +kernel)) (GT_at 16 (by decide +kernel) (by decide +kernel)) (GT_at 229 (by decide +kernel) (by decide +kernel)) (by decide +kernel) (by decide) (GT_at 228 (by decide +kernel) (by decide +kernel)) (GT_at 0 (by decide +kernel) (by decide +kernel)) rfl rfl) (all_nil)) ?_ ?_
  · rintro as M - ⟨o, ch, rfl, hp⟩
    exact Nat.le_of_ble_eq_true rfl
  · rintro L scr as M - ⟨o, ch, rfl, hp⟩
    exact Runs.mono (fun x M' h _ _ e => by cases e; exact h) (ok_X2_skips L scr o ch M hp)
abbrev rpO (M M' : Mem) (p x : Int) (T : Int × Int × Int) : Prop := (x = 1 ∧ T.1 = 1 ∧ M' = upM (upM M 8 4 T.2.1) 10 p (nib T.2.2)) ∨ (x = 0 ∧ T.1 = 0 ∧ M' = upM M 8 4 T.2.1)
abbrev C_X2_readPaper : Ct := (2, true, fun as M => ∃ (o : Nat) (p : Int), as = [wR o, wI p] ∧ (o = 8 ∧ PdC M ∧ (0 ≤ M 8 4 ∧ M 8 4 ≤ M 8 1) ∧ 0 ≤ p ∧ p < 3), fun as M x M' => ∀ (o : Nat) (p : Int), as = [wR o, wI p] → (rpO M M' p x (rdp (M 9) (M 8 1) 6 (M 8 4) 97 0)))
def sx_X2_readPaper : Sx := (tb_X2_readPaper, fdX2, kLX2, kIX2, sgX2, ntX2, [(26, (2, C_X2_isNext)), (41, (9, C_X3_withPieces))], 2)
set_option maxRecDepth 100000 in
set_option maxHeartbeats 1000000 in
theorem ok_X2_readPaper (L : Nat) (scr : Int → Int) (o : Nat) (p : Int) (M : Mem) (hp : o = 8 ∧ PdC M ∧ (0 ≤ M 8 4 ∧ M 8 4 ≤ M 8 1) ∧ 0 ≤ p ∧ p < 3) : Runs sx_X2_readPaper L (xcF scr) (fun x M' => rpO M M' p x (rdp (M 9) (M 8 1) 6 (M 8 4) 97 0)) 0 [wR o, wI p, none, none, none, none] [] M := by
  obtain ⟨rfl, pd, p3, hpp⟩ := hp
  obtain ⟨T, hT⟩ : ∃ T, T = rdp (M 9) (M 8 1) 6 (M 8 4) 97 0 := ⟨_, rfl⟩
  rw [← hT]
  have p60 := pd.1
  have L1 : ∀ (m : Nat) (i s l P : Int) (u : PV) (M1 : Mem), M1 = upM M 8 4 s → i + m = 6 → 0 ≤ i → 0 ≤ s → s ≤ M 8 1 → 97 ≤ l → l ≤ 103 → Pz l P → rdp (M 9) (M 8 1) m s l P = T →
      Runs sx_X2_readPaper L (xcF scr) (fun x M' => rpO M M' p x T) 8 [wR 8, wI p, wI (nib P), wI l, wI i, u] [] M1 := by
    intro m
    induction m with
    | zero =>
      intro i s l P u M1 hM hi i0 s0 s1 l0 l1 hz e
      have e : (1, s, P) = T := e
      refine R_iload (q := 10) rfl rfl rfl ?_
      refine R_bipush (q := 12) rfl rfl (by decide) ?_
      refine R_icmp_ge (q := 15) (tgt := 103) rfl rfl (by decide) (by omega) (by omega) (fun h12 => ?_) (fun h12 => ?_)
      · refine R_aload_n (q := 104) (i := 0) rfl rfl rfl rfl ?_
        refine R_getR (q := 107) rfl rfl rfl rfl rfl (by omega) ?_
        refine R_iload_n (q := 108) (i := 1) rfl rfl rfl rfl ?_
        refine R_iload_n (q := 109) (i := 2) rfl rfl rfl rfl ?_
        refine R_iast (q := 110) rfl rfl rfl (by omega) (by omega) rfl ?_
        refine R_iconst (q := 111) rfl rfl ?_
        refine R_ret rfl (Or.inr ⟨rfl, (Or.inr rfl)⟩) ?_
        rw [← e]
        exact Or.inl ⟨rfl, rfl, by rw [hM]⟩
      · omega
    | succ m ih =>
      intro i s l P u M1 hM hi i0 s0 s1 l0 l1 hz e
      have hS : SpK M M1 := hM ▸ SpK.u4
      have pd1 := hS.pd pd
      have h4 : M1 8 4 = s := by rw [hM, upM_s]
      have t1 := hS.1 1 (by omega) (by omega)
      have t9 := hS.2 9 (by omega) (by omega)
      have S2 : SpK M (upM M1 8 4 (s + 1)) := hS.tr SpK.u4
      have pd2 := S2.pd pd
      have u4 : upM M1 8 4 (s + 1) 8 4 = s + 1 := upM_s
      have u1 : upM M1 8 4 (s + 1) 8 1 = M 8 1 := S2.1 1 (by omega) (by omega)
      have u9 : upM M1 8 4 (s + 1) 9 = M 9 := S2.2 9 (by omega) (by omega)
      have mm : ∀ z, upM M1 8 4 z = upM M 8 4 z := fun z => by
        rw [hM]
        funext r k
        unfold upM
        split <;> rfl
      unfold rdp at e
      refine R_iload (q := 10) rfl rfl rfl ?_
      refine R_bipush (q := 12) rfl rfl (by decide) ?_
      refine R_icmp_ge (q := 15) (tgt := 103) rfl rfl (by decide) (by omega) (by omega) (fun h12 => ?_) (fun h12 => ?_)
      · omega
      · refine R_aload_n (q := 16) (i := 0) rfl rfl rfl rfl ?_
        refine R_iload_n (q := 17) (i := 3) rfl rfl rfl rfl ?_
        refine R_bipush (q := 19) rfl rfl (by decide) ?_
        refine R_cV2I (q := 22) (ci := 2) (C := C_X2_isNext) rfl rfl rfl rfl rfl ⟨_, _, _, rfl, ⟨rfl, pd1, by omega, by omega, by omega⟩⟩ rfl rfl (by omega) (fun x M' hc => ?_)
        replace hc := hc _ _ _ rfl
        obtain ⟨hc, rfl⟩ := hc
        unfold isN at hc
        rw [h4, t1, t9] at hc
        refine R_if_eq (q := 25) (tgt := 103) rfl rfl (by decide) (by omega) (fun h22 => ?_) (fun h22 => ?_)
        · have hn : ¬ (s < M 8 1 ∧ l ≤ M 9 s ∧ M 9 s ≤ 102) := by omega
          rw [if_neg hn] at e
          refine R_aload_n (q := 104) (i := 0) rfl rfl rfl rfl ?_
          refine R_getR (q := 107) rfl rfl rfl rfl rfl (by omega) ?_
          refine R_iload_n (q := 108) (i := 1) rfl rfl rfl rfl ?_
          refine R_iload_n (q := 109) (i := 2) rfl rfl rfl rfl ?_
          refine R_iast (q := 110) rfl rfl rfl (by omega) (by omega) rfl ?_
          refine R_iconst (q := 111) rfl rfl ?_
          refine R_ret rfl (Or.inr ⟨rfl, (Or.inr rfl)⟩) ?_
          rw [← e]
          exact Or.inl ⟨rfl, rfl, by rw [hM]⟩
        · have hn : s < M 8 1 ∧ l ≤ M 9 s ∧ M 9 s ≤ 102 := by omega
          rw [if_pos hn] at e
          refine R_aload_n (q := 26) (i := 0) rfl rfl rfl rfl ?_
          refine R_getR (q := 29) rfl rfl rfl rfl rfl (by omega) ?_
          refine R_aload_n (q := 30) (i := 0) rfl rfl rfl rfl ?_
          refine R_getI (q := 33) (k1 := 4) rfl rfl rfl rfl rfl (by omega) rfl ?_
          refine R_cald (q := 34) (v := M 9 s) rfl rfl rfl (by omega) (by rw [h4]; omega) (by rw [h4, t9]) ?_
          refine R_istore (q := 36) rfl rfl rfl ?_
          refine R_aload_n (q := 37) (i := 0) rfl rfl rfl rfl ?_
          refine R_dup (q := 38) rfl rfl rfl ?_
          refine R_getI (q := 41) (k1 := 4) rfl rfl rfl rfl rfl (by omega) rfl ?_
          refine R_iconst (q := 42) rfl rfl ?_
          refine R_iadd (q := 43) rfl rfl ?_
          refine R_putI (q := 46) (k1 := 4) (M2 := upM M1 8 4 (s + 1)) rfl rfl rfl rfl rfl (by omega) rfl rfl rfl (by rw [h4]) ?_
          refine R_aload_n (q := 47) (i := 0) rfl rfl rfl rfl ?_
          refine R_bipush (q := 49) rfl rfl (by decide) ?_
          refine R_bipush (q := 51) rfl rfl (by decide) ?_
          refine R_cV2I (q := 54) (ci := 2) (C := C_X2_isNext) rfl rfl rfl rfl rfl ⟨_, _, _, rfl, ⟨rfl, pd2, by rw [u4]; omega, by omega, by omega⟩⟩ rfl rfl (by omega) (fun x M' hc => ?_)
          replace hc := hc _ _ _ rfl
          obtain ⟨hc2, rfl⟩ := hc
          unfold isN at hc2
          rw [u4, u1, u9] at hc2
          refine R_if_ne (q := 57) (tgt := 59) rfl rfl (by decide) (by omega) (fun h54 => ?_) (fun h54 => ?_)
          · have hn2 : s + 1 < M 8 1 ∧ 49 ≤ M 9 (s + 1) ∧ M 9 (s + 1) ≤ 57 := by omega
            rw [if_pos hn2] at e
            have hzk := hz.2 (M 9 s - 97) (by omega) (by omega) (by omega)
            refine R_iload_n (q := 60) (i := 2) rfl rfl rfl rfl ?_
            refine R_iload (q := 62) rfl rfl rfl ?_
            refine R_bipush (q := 64) rfl rfl (by decide) ?_
            refine R_isub (q := 65) rfl rfl ?_
            refine R_aload_n (q := 66) (i := 0) rfl rfl rfl rfl ?_
            refine R_getR (q := 69) rfl rfl rfl rfl rfl (by omega) ?_
            refine R_aload_n (q := 70) (i := 0) rfl rfl rfl rfl ?_
            refine R_getI (q := 73) (k1 := 4) rfl rfl rfl rfl rfl (by omega) rfl ?_
            refine R_cald (q := 74) (v := M 9 (s + 1)) rfl rfl rfl (by omega) (by rw [u4]; omega) (by rw [u4, u9]) ?_
            refine R_bipush (q := 76) rfl rfl (by decide) ?_
            refine R_isub (q := 77) rfl rfl ?_
            refine R_cS3I (q := 80) (ci := 9) (C := C_X3_withPieces) rfl rfl rfl rfl rfl ⟨_, _, _, rfl, ⟨nib_bd hz.1.1, by omega, by omega⟩⟩ rfl rfl (fun x M' hc => ?_)
            replace hc := hc _ _ _ rfl
            obtain ⟨hc3, rfl⟩ := hc
            rw [nib_dig hz.1.1 (by omega), ← nib_set hz.1 (by omega) (by omega), hzk, Int.sub_zero] at hc3
            subst hc3
            refine R_istore_n (q := 81) (i := 2) rfl rfl rfl rfl ?_
            refine R_aload_n (q := 82) (i := 0) rfl rfl rfl rfl ?_
            refine R_dup (q := 83) rfl rfl rfl ?_
            refine R_getI (q := 86) (k1 := 4) rfl rfl rfl rfl rfl (by omega) rfl ?_
            refine R_iconst (q := 87) rfl rfl ?_
            refine R_iadd (q := 88) rfl rfl ?_
            refine R_putI (q := 91) (k1 := 4) (M2 := upM M 8 4 (s + 2)) rfl rfl rfl rfl rfl (by omega) rfl rfl rfl (by rw [u4, mm, show s + 1 + 1 = s + 2 by omega]; funext r k; unfold upM; split <;> rfl) ?_
            refine R_iload (q := 93) rfl rfl rfl ?_
            refine R_iconst (q := 94) rfl rfl ?_
            refine R_iadd (q := 95) rfl rfl ?_
            refine R_i2c (q := 96) rfl rfl (by omega) ?_
            refine R_istore_n (q := 97) (i := 3) rfl rfl rfl rfl ?_
            refine R_iinc (q := 100) rfl rfl rfl rfl ?_
            refine R_goto (q := 103) (tgt := 8) rfl rfl (by decide) ?_
            exact ih (i + 1) (s + 2) (M 9 s + 1) _ _ _ rfl (by omega) (by omega) (by omega) (by omega) (by omega) (by omega) (Pz_s hz l0 hn.2.1 hn.2.2 (by omega)) e
          · have hn2 : ¬ (s + 1 < M 8 1 ∧ 49 ≤ M 9 (s + 1) ∧ M 9 (s + 1) ≤ 57) := by omega
            rw [if_neg hn2] at e
            refine R_iconst (q := 58) rfl rfl ?_
            refine R_ret rfl (Or.inr ⟨rfl, (Or.inl rfl)⟩) ?_
            rw [← e]
            exact Or.inr ⟨rfl, rfl, mm _⟩
  refine R_iconst (q := 1) rfl rfl ?_
  refine R_istore_n (q := 2) (i := 2) rfl rfl rfl rfl ?_
  refine R_bipush (q := 4) rfl rfl (by decide) ?_
  refine R_istore_n (q := 5) (i := 3) rfl rfl rfl rfl ?_
  refine R_iconst (q := 6) rfl rfl ?_
  refine R_istore (q := 8) rfl rfl rfl ?_
  have n0 : nib 0 = 0 := by decide +kernel
  have := L1 6 0 (M 8 4) 97 0 none M (upM_self rfl).symm (by omega) (by omega) p3.1 p3.2 (by omega) (by omega) Pz_0 hT.symm
  rw [n0] at this
  exact this
set_option maxRecDepth 100000 in
theorem mt_X2_readPaper : MtOK yX2_readPaper cX2_readPaper 6 (some .boolean) 1 C_X2_readPaper := by
  refine mt_of sx_X2_readPaper (by decide +kernel) (Or.inr (Or.inl ⟨rfl, rfl, rfl⟩)) (by decide +kernel) fdX2_ok kLX2_ok kIX2_ok sgX2_ok ntX2_ok
    (all_cons (clokV mt_X2_isNext rfl (GT_at 226 (by decide +kernel) (by decide +kernel)) (GT_at 16 (by decide +kernel) (by decide +kernel)) (GT_at 229 (by decide +kernel) (by decide +kernel)) (by decide +kernel) (by decide) (GT_at 228 (by decide +kernel) (by decide +kernel)) (GT_at 0 (by decide +kernel) (by decide +kernel)) rfl rfl) (all_cons (clokS mt_X3_withPieces (GT_at 238 (by decide +kernel) (by decide +kernel)) (GT_at 17 (by decide +kernel) (by decide +kernel)) (GT_at 240 (by decide +kernel) (by decide +kernel)) (by decide +kernel) (by decide) (GT_at 239 (by decide +kernel) (by decide +kernel))) (all_nil))) ?_ ?_
  · rintro as M - ⟨o, p, rfl, hp⟩
    exact Nat.le_of_ble_eq_true rfl
  · rintro L scr as M - ⟨o, p, rfl, hp⟩
    exact Runs.mono (fun x M' h _ _ e => by cases e; exact h) (ok_X2_readPaper L scr o p M hp)
