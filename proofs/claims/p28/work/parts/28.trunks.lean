/-! the class's trunks: an object at o, its rows at o + 1 and o + 3 to o + 10 (o + 3 + k a paper's) -/
def isTk (o : Nat) : Prop := ∃ a, isSt a ∧ o = a + 11
def tkF (o : Nat) : Nat → Option Nat := fun k => match k with | 1 => some (o + 1) | 2 => some (o + 2) | 3 => some (o + 6) | 4 => some (o + 7) | 5 => some (o + 8) | 6 => some (o + 9) | 7 => some (o + 10) | _ => none
theorem isTk.bd {o : Nat} (h : isTk o) : 26 ≤ o ∧ o + 10 < 191 := by
  obtain ⟨a, ⟨h1, h2, h3⟩, rfl⟩ := h
  omega
theorem lay_tk {L o : Nat} (h : isTk o) : LAY L o = .inl (5, tkF o) := by
  obtain ⟨a, h1, rfl⟩ := h
  rw [layi h1 rfl]
  refine congrArg (fun z => Sum.inl (5, z)) (funext fun k => ?_)
  match k with
  | 0 => rfl
  | 1 => rfl
  | 2 => rfl
  | 3 => rfl
  | 4 => rfl
  | 5 => rfl
  | 6 => rfl
  | 7 => rfl
  | _ + 8 => rfl
theorem lay_tp {L o : Nat} (h : isTk o) : LAY L (o + 2) = .inr (.inr (3, 3, fun k => o + 3 + k)) := by
  obtain ⟨a, h1, rfl⟩ := h
  rw [show a + 11 + 2 = a + 13 from rfl, layi h1 rfl]
  rfl
def taB (i : Nat) : Bool := match i with | 1 => true | 3 => true | 4 => true | 5 => true | 6 => true | 7 => true | 8 => true | 9 => true | 10 => true | _ => false
theorem lay_ta {L o i : Nat} (h : isTk o) (hi : taB i = true) : LAY L (o + i) = .inr (.inl (0, 64)) := by
  obtain ⟨a, h1, rfl⟩ := h
  have : i = 1 ∨ i = 3 ∨ i = 4 ∨ i = 5 ∨ i = 6 ∨ i = 7 ∨ i = 8 ∨ i = 9 ∨ i = 10 := by
    unfold taB at hi
    split at hi <;> first | omega | cases hi
  rcases this with rfl | rfl | rfl | rfl | rfl | rfl | rfl | rfl | rfl
  · rw [show a + 11 + 1 = a + 12 from rfl, layi h1 rfl]; rfl
  · rw [show a + 11 + 3 = a + 14 from rfl, layi h1 rfl]; rfl
  · rw [show a + 11 + 4 = a + 15 from rfl, layi h1 rfl]; rfl
  · rw [show a + 11 + 5 = a + 16 from rfl, layi h1 rfl]; rfl
  · rw [show a + 11 + 6 = a + 17 from rfl, layi h1 rfl]; rfl
  · rw [show a + 11 + 7 = a + 18 from rfl, layi h1 rfl]; rfl
  · rw [show a + 11 + 8 = a + 19 from rfl, layi h1 rfl]; rfl
  · rw [show a + 11 + 9 = a + 20 from rfl, layi h1 rfl]; rfl
  · rw [show a + 11 + 10 = a + 21 from rfl, layi h1 rfl]; rfl
/-- the papers of the trunk t, against a row's -/
abbrev PpO (M : Mem) (o : Nat) (f : Int → Int) (t : Int) : Prop := (M (o + 3) t = nib (f (87 + 9 * t)) ∧ M (o + 4) t = nib (f (88 + 9 * t)) ∧ M (o + 5) t = nib (f (89 + 9 * t))) ∧ 0 ≤ f (87 + 9 * t) ∧ 0 ≤ f (88 + 9 * t) ∧ 0 ≤ f (89 + 9 * t)
abbrev C_X5_difference : Ct := (3, true, fun as M => ∃ (o : Nat) (t : Int) (k : Int), as = [wR o, wI t, wI k] ∧ (isTk o ∧ (0 ≤ t ∧ t < 64) ∧ (0 ≤ k ∧ k < 6) ∧ PpO M o (M 200) t), fun as M x M' => ∀ (o : Nat) (t : Int) (k : Int), as = [wR o, wI t, wI k] → ((df (M 200) t k) = x ∧ (M) = M'))
def sx_X5_difference : Sx := (tb_X5_difference, fdX5, kLX5, kIX5, sgX5, ntX5, [(39, (9, C_X3_piecesOf))], 1)
set_option maxRecDepth 100000 in
set_option maxHeartbeats 1000000 in
theorem ok_X5_difference (L : Nat) (scr : Int → Int) (o : Nat) (t : Int) (k : Int) (M : Mem) (hp : isTk o ∧ (0 ≤ t ∧ t < 64) ∧ (0 ≤ k ∧ k < 6) ∧ PpO M o (M 200) t) : Runs sx_X5_difference L (xcF scr) (fun x M' => (df (M 200) t k) = x ∧ (M) = M') 0 [wR o, wI t, wI k, none, none] [] M := by
  obtain ⟨hd, h1, h2, ⟨h3, h4, h5⟩, h6, h7, h8⟩ := hp
  have hb := hd.bd
  have b1 := dig_bd (k := k) h6
  have b2 := dig_bd (k := k) h7
  refine R_aload_n (q := 1) (i := 0) rfl rfl rfl rfl ?_
  refine R_getR (q := 4) rfl rfl rfl (lay_tk hd) rfl (by omega) ?_
  refine R_iconst (q := 5) rfl rfl ?_
  refine R_aald (q := 6) (r2 := o + 3) rfl rfl (lay_tp hd) (by omega) (by omega) rfl ?_
  refine R_iload_n (q := 7) (i := 1) rfl rfl rfl rfl ?_
  refine R_iald (q := 8) (v := nib (M 200 (87 + 9 * t))) rfl rfl (lay_ta hd rfl) (by omega) (by omega) h3 ?_
  refine R_iload_n (q := 9) (i := 2) rfl rfl rfl rfl ?_
  refine R_cS2I (q := 12) (ci := 9) (C := C_X3_piecesOf) rfl rfl rfl rfl rfl ⟨_, _, rfl, ⟨nib_bd h6, h2⟩⟩ rfl rfl (fun x M' hc => ?_)
  replace hc := hc _ _ rfl
  obtain ⟨hc, rfl⟩ := hc
  rw [nib_dig h6 h2] at hc
  subst hc
  refine R_istore_n (q := 13) (i := 3) rfl rfl rfl rfl ?_
  refine R_aload_n (q := 14) (i := 0) rfl rfl rfl rfl ?_
  refine R_getR (q := 17) rfl rfl rfl (lay_tk hd) rfl (by omega) ?_
  refine R_iconst (q := 18) rfl rfl ?_
  refine R_aald (q := 19) (r2 := o + 4) rfl rfl (lay_tp hd) (by omega) (by omega) rfl ?_
  refine R_iload_n (q := 20) (i := 1) rfl rfl rfl rfl ?_
  refine R_iald (q := 21) (v := nib (M 200 (88 + 9 * t))) rfl rfl (lay_ta hd rfl) (by omega) (by omega) h4 ?_
  refine R_iload_n (q := 22) (i := 2) rfl rfl rfl rfl ?_
  refine R_cS2I (q := 25) (ci := 9) (C := C_X3_piecesOf) rfl rfl rfl rfl rfl ⟨_, _, rfl, ⟨nib_bd h7, h2⟩⟩ rfl rfl (fun x M' hc => ?_)
  replace hc := hc _ _ rfl
  obtain ⟨hc, rfl⟩ := hc
  rw [nib_dig h7 h2] at hc
  subst hc
  refine R_istore (q := 27) rfl rfl rfl ?_
  refine R_iload_n (q := 28) (i := 3) rfl rfl rfl rfl ?_
  refine R_iload (q := 30) rfl rfl rfl ?_
  refine R_isub (q := 31) rfl rfl ?_
  refine R_mabs (q := 34) rfl rfl rfl (by omega) rfl ?_
  refine R_ret rfl (Or.inl rfl) ?_
  refine ⟨?_, rfl⟩
  unfold df iab
  split <;> split <;> omega
set_option maxRecDepth 100000 in
theorem mt_X5_difference : MtOK yX5_difference cX5_difference 5 (some .int) 1 C_X5_difference := by
  refine mt_of sx_X5_difference (by decide +kernel) (Or.inl ⟨rfl, rfl, rfl⟩) (by decide +kernel) fdX5_ok kLX5_ok kIX5_ok sgX5_ok ntX5_ok
    (all_cons (clokS mt_X3_piecesOf (GT_at 377 (by decide +kernel) (by decide +kernel)) (GT_at 17 (by decide +kernel) (by decide +kernel)) (GT_at 379 (by decide +kernel) (by decide +kernel)) (by decide +kernel) (by decide) (GT_at 378 (by decide +kernel) (by decide +kernel))) (all_nil)) ?_ ?_
  · rintro as M - ⟨o, t, k, rfl, hp⟩
    exact Nat.le_of_ble_eq_true rfl
  · rintro L scr as M - ⟨o, t, k, rfl, hp⟩
    exact Runs.mono (fun x M' h _ _ _ e => by cases e; exact h) (ok_X5_difference L scr o t k M hp)
abbrev C_X5_disagreements : Ct := (3, true, fun as M => ∃ (o : Nat) (t : Int) (e : Int), as = [wR o, wI t, wI e] ∧ (isTk o ∧ (0 ≤ t ∧ t < 64) ∧ (0 ≤ e ∧ e ≤ 9) ∧ M 200 4 = e ∧ PpO M o (M 200) t), fun as M x M' => ∀ (o : Nat) (t : Int) (e : Int), as = [wR o, wI t, wI e] → ((msk (M 200) t) = x ∧ (M) = M'))
def sx_X5_disagreements : Sx := (tb_X5_disagreements, fdX5, kLX5, kIX5, sgX5, ntX5, [(51, (5, C_X5_difference))], 1)
set_option maxRecDepth 100000 in
set_option maxHeartbeats 1000000 in
theorem ok_X5_disagreements (L : Nat) (scr : Int → Int) (o : Nat) (t : Int) (e : Int) (M : Mem) (hp : isTk o ∧ (0 ≤ t ∧ t < 64) ∧ (0 ≤ e ∧ e ≤ 9) ∧ M 200 4 = e ∧ PpO M o (M 200) t) : Runs sx_X5_disagreements L (xcF scr) (fun x M' => (msk (M 200) t) = x ∧ (M) = M') 0 [wR o, wI t, wI e, none, none] [] M := by
  obtain ⟨hd, h1, h2, rfl, hP⟩ := hp
  have hb := hd.bd
  have L1 : ∀ (n i : Nat), i + n = 6 → Runs sx_X5_disagreements L (xcF scr) (fun x M' => (msk (M 200) t) = x ∧ M = M') 5 [wR o, wI t, wI (M 200 4), wI (mP (M 200) t i), wI (i : Int)] [] M := by
    intro n
    induction n with
    | zero =>
      intro i hi
      have hi : i = 6 := by omega
      subst hi
      refine R_iload (q := 7) rfl rfl rfl ?_
      refine R_bipush (q := 9) rfl rfl (by decide) ?_
      refine R_icmp_ge (q := 12) (tgt := 36) rfl rfl (by decide) (by omega) (by omega) (fun h9 => ?_) (fun h9 => ?_)
      · refine R_iload_n (q := 37) (i := 3) rfl rfl rfl rfl ?_
        refine R_ret rfl (Or.inl rfl) ?_
        exact ⟨(mP_6 _ _).symm, rfl⟩
      · omega
    | succ n ih =>
      intro i hi
      have hb := mP_bd (M 200) t i (by omega)
      have hk : 0 ≤ (i : Int) ∧ (i : Int) < 6 := by omega
      have hdf := df_bd (f := M 200) (t := t) (k := (i : Int)) hP.2.1 hP.2.2.1
      refine R_iload (q := 7) rfl rfl rfl ?_
      refine R_bipush (q := 9) rfl rfl (by decide) ?_
      refine R_icmp_ge (q := 12) (tgt := 36) rfl rfl (by decide) (by omega) (by omega) (fun h9 => ?_) (fun h9 => ?_)
      · omega
      · refine R_aload_n (q := 13) (i := 0) rfl rfl rfl rfl ?_
        refine R_iload_n (q := 14) (i := 1) rfl rfl rfl rfl ?_
        refine R_iload (q := 16) rfl rfl rfl ?_
        refine R_cV2I (q := 19) (ci := 5) (C := C_X5_difference) rfl rfl rfl rfl rfl ⟨_, _, _, rfl, ⟨hd, h1, hk, hP⟩⟩ rfl (lay_tk hd) (by omega) (fun x M' hc => ?_)
        replace hc := hc _ _ _ rfl
        obtain ⟨rfl, rfl⟩ := hc
        refine R_iload_n (q := 20) (i := 2) rfl rfl rfl rfl ?_
        refine R_icmp_le (q := 23) (tgt := 30) rfl rfl (by decide) (by omega) (by omega) (fun h20 => ?_) (fun h20 => ?_)
        · have e : mP (M 200) t i = mP (M 200) t (i + 1) := by
            show _ = mP (M 200) t i + ds (M 200) t (i : Int) * p2 (i : Int)
            unfold ds
            rw [bt_f (by omega)]
            omega
          refine R_iinc (q := 33) rfl rfl rfl rfl ?_
          refine R_goto (q := 36) (tgt := 5) rfl rfl (by decide) ?_
          rw [e]
          exact ih (i + 1) (by omega)
        · have e : xior (mP (M 200) t i) (xishl 1 (i : Int)) = mP (M 200) t (i + 1) := by
            rw [ior_shl hk hb (by omega)]
            show _ = mP (M 200) t i + ds (M 200) t (i : Int) * p2 (i : Int)
            unfold ds
            rw [bt_t (by omega)]
          refine R_iload_n (q := 24) (i := 3) rfl rfl rfl rfl ?_
          refine R_iconst (q := 25) rfl rfl ?_
          refine R_iload (q := 27) rfl rfl rfl ?_
          refine R_ishl (q := 28) rfl rfl ?_
          refine R_ior (q := 29) rfl rfl ?_
          refine R_istore_n (q := 30) (i := 3) rfl rfl rfl rfl ?_
          refine R_iinc (q := 33) rfl rfl rfl rfl ?_
          refine R_goto (q := 36) (tgt := 5) rfl rfl (by decide) ?_
          rw [e]
          exact ih (i + 1) (by omega)
  refine R_iconst (q := 1) rfl rfl ?_
  refine R_istore_n (q := 2) (i := 3) rfl rfl rfl rfl ?_
  refine R_iconst (q := 3) rfl rfl ?_
  refine R_istore (q := 5) rfl rfl rfl ?_
  exact L1 6 0 rfl
set_option maxRecDepth 100000 in
theorem mt_X5_disagreements : MtOK yX5_disagreements cX5_disagreements 5 (some .int) 2 C_X5_disagreements := by
  refine mt_of sx_X5_disagreements (by decide +kernel) (Or.inl ⟨rfl, rfl, rfl⟩) (by decide +kernel) fdX5_ok kLX5_ok kIX5_ok sgX5_ok ntX5_ok
    (all_cons (clokV mt_X5_difference rfl (GT_at 469 (by decide +kernel) (by decide +kernel)) (GT_at 14 (by decide +kernel) (by decide +kernel)) (GT_at 376 (by decide +kernel) (by decide +kernel)) (by decide +kernel) (by decide) (GT_at 374 (by decide +kernel) (by decide +kernel)) (GT_at 375 (by decide +kernel) (by decide +kernel)) rfl rfl) (all_nil)) ?_ ?_
  · rintro as M - ⟨o, t, e, rfl, hp⟩
    exact Nat.le_of_ble_eq_true rfl
  · rintro L scr as M - ⟨o, t, e, rfl, hp⟩
    exact Runs.mono (fun x M' h _ _ _ e => by cases e; exact h) (ok_X5_disagreements L scr o t e M hp)
abbrev C_X5_sumBeyond : Ct := (3, true, fun as M => ∃ (o : Nat) (t : Int) (e : Int), as = [wR o, wI t, wI e] ∧ (isTk o ∧ (0 ≤ t ∧ t < 64) ∧ (0 ≤ e ∧ e ≤ 9) ∧ M 200 4 = e ∧ PpO M o (M 200) t), fun as M x M' => ∀ (o : Nat) (t : Int) (e : Int), as = [wR o, wI t, wI e] → ((0 ≤ x ∧ x ≤ 54 ∧ (x = 0 ↔ msk (M 200) t = 0)) ∧ M = M'))
def sx_X5_sumBeyond : Sx := (tb_X5_sumBeyond, fdX5, kLX5, kIX5, sgX5, ntX5, [(51, (5, C_X5_difference))], 1)
set_option maxRecDepth 100000 in
set_option maxHeartbeats 1000000 in
theorem ok_X5_sumBeyond (L : Nat) (scr : Int → Int) (o : Nat) (t : Int) (e : Int) (M : Mem) (hp : isTk o ∧ (0 ≤ t ∧ t < 64) ∧ (0 ≤ e ∧ e ≤ 9) ∧ M 200 4 = e ∧ PpO M o (M 200) t) : Runs sx_X5_sumBeyond L (xcF scr) (fun x M' => (0 ≤ x ∧ x ≤ 54 ∧ (x = 0 ↔ msk (M 200) t = 0)) ∧ M = M') 0 [wR o, wI t, wI e, none, none] [] M := by
  obtain ⟨hd, h1, h2, rfl, hP⟩ := hp
  have hb := hd.bd
  have L1 : ∀ (n i : Nat) (s : Int), i + n = 6 → 0 ≤ s → s ≤ 9 * i → (s = 0 ↔ mP (M 200) t i = 0) → Runs sx_X5_sumBeyond L (xcF scr) (fun x M' => (0 ≤ x ∧ x ≤ 54 ∧ (x = 0 ↔ msk (M 200) t = 0)) ∧ M = M') 5 [wR o, wI t, wI (M 200 4), wI s, wI (i : Int)] [] M := by
    intro n
    induction n with
    | zero =>
      intro i s hi s0 s1 hs
      have hi : i = 6 := by omega
      subst hi
      rw [mP_6] at hs
      refine R_iload (q := 7) rfl rfl rfl ?_
      refine R_bipush (q := 9) rfl rfl (by decide) ?_
      refine R_icmp_ge (q := 12) (tgt := 34) rfl rfl (by decide) (by omega) (by omega) (fun h9 => ?_) (fun h9 => ?_)
      · refine R_iload_n (q := 35) (i := 3) rfl rfl rfl rfl ?_
        refine R_ret rfl (Or.inl rfl) ?_
        exact ⟨⟨s0, by omega, hs⟩, rfl⟩
      · omega
    | succ n ih =>
      intro i s hi s0 s1 hs
      have hb := mP_bd (M 200) t i (by omega)
      have hk : 0 ≤ (i : Int) ∧ (i : Int) < 6 := by omega
      have hdf := df_bd (f := M 200) (t := t) (k := (i : Int)) hP.2.1 hP.2.2.1
      have hp2 : 1 ≤ p2 (i : Int) := k6 (P := fun k => 1 ≤ p2 k) hk (by decide) (by decide) (by decide) (by decide) (by decide) (by decide)
      have em : mP (M 200) t (i + 1) = mP (M 200) t i + ds (M 200) t (i : Int) * p2 (i : Int) := rfl
      have hds : ds (M 200) t (i : Int) = bt_ (M 200 4 < df (M 200) t (i : Int)) 1 := rfl
      refine R_iload (q := 7) rfl rfl rfl ?_
      refine R_bipush (q := 9) rfl rfl (by decide) ?_
      refine R_icmp_ge (q := 12) (tgt := 34) rfl rfl (by decide) (by omega) (by omega) (fun h9 => ?_) (fun h9 => ?_)
      · omega
      · refine R_iload_n (q := 13) (i := 3) rfl rfl rfl rfl ?_
        refine R_iconst (q := 14) rfl rfl ?_
        refine R_aload_n (q := 15) (i := 0) rfl rfl rfl rfl ?_
        refine R_iload_n (q := 16) (i := 1) rfl rfl rfl rfl ?_
        refine R_iload (q := 18) rfl rfl rfl ?_
        refine R_cV2I (q := 21) (ci := 5) (C := C_X5_difference) rfl rfl rfl rfl rfl ⟨_, _, _, rfl, ⟨hd, h1, hk, hP⟩⟩ rfl (lay_tk hd) (by omega) (fun x M' hc => ?_)
        replace hc := hc _ _ _ rfl
        obtain ⟨rfl, rfl⟩ := hc
        refine R_iload_n (q := 22) (i := 2) rfl rfl rfl rfl ?_
        refine R_isub (q := 23) rfl rfl ?_
        refine R_mmax (q := 26) rfl rfl rfl (by omega) (by omega) rfl ?_
        refine R_iadd (q := 27) rfl rfl ?_
        refine R_istore_n (q := 28) (i := 3) rfl rfl rfl rfl ?_
        refine R_iinc (q := 31) rfl rfl rfl rfl ?_
        refine R_goto (q := 34) (tgt := 5) rfl rfl (by decide) ?_
        by_cases e : M 200 4 < df (M 200) t (i : Int)
        · rw [if_pos (by omega)]
          rw [bt_t e] at hds
          exact ih (i + 1) _ (by omega) (by omega) (by omega) (by rw [em, hds]; omega)
        · rw [if_neg (by omega)]
          rw [bt_f e] at hds
          exact ih (i + 1) _ (by omega) (by omega) (by omega) (by rw [em, hds]; omega)
  refine R_iconst (q := 1) rfl rfl ?_
  refine R_istore_n (q := 2) (i := 3) rfl rfl rfl rfl ?_
  refine R_iconst (q := 3) rfl rfl ?_
  refine R_istore (q := 5) rfl rfl rfl ?_
  exact L1 6 0 0 rfl (by omega) (by omega) ⟨fun _ => rfl, fun _ => rfl⟩
set_option maxRecDepth 100000 in
theorem mt_X5_sumBeyond : MtOK yX5_sumBeyond cX5_sumBeyond 5 (some .int) 2 C_X5_sumBeyond := by
  refine mt_of sx_X5_sumBeyond (by decide +kernel) (Or.inl ⟨rfl, rfl, rfl⟩) (by decide +kernel) fdX5_ok kLX5_ok kIX5_ok sgX5_ok ntX5_ok
    (all_cons (clokV mt_X5_difference rfl (GT_at 469 (by decide +kernel) (by decide +kernel)) (GT_at 14 (by decide +kernel) (by decide +kernel)) (GT_at 376 (by decide +kernel) (by decide +kernel)) (by decide +kernel) (by decide) (GT_at 374 (by decide +kernel) (by decide +kernel)) (GT_at 375 (by decide +kernel) (by decide +kernel)) rfl rfl) (all_nil)) ?_ ?_
  · rintro as M - ⟨o, t, e, rfl, hp⟩
    exact Nat.le_of_ble_eq_true rfl
  · rintro L scr as M - ⟨o, t, e, rfl, hp⟩
    exact Runs.mono (fun x M' h _ _ _ e => by cases e; exact h) (ok_X5_sumBeyond L scr o t e M hp)
abbrev C_X5_hiddenKinds : Ct := (2, true, fun as M => ∃ (o : Nat) (t : Int), as = [wR o, wI t] ∧ (isTk o ∧ (0 ≤ t ∧ t < 64) ∧ PpO M o (M 200) t), fun as M x M' => ∀ (o : Nat) (t : Int), as = [wR o, wI t] → ((fmk (M 200) t) = x ∧ (M) = M'))
def sx_X5_hiddenKinds : Sx := (tb_X5_hiddenKinds, fdX5, kLX5, kIX5, sgX5, ntX5, [(39, (9, C_X3_piecesOf))], 1)
set_option maxRecDepth 100000 in
set_option maxHeartbeats 1000000 in
theorem ok_X5_hiddenKinds (L : Nat) (scr : Int → Int) (o : Nat) (t : Int) (M : Mem) (hp : isTk o ∧ (0 ≤ t ∧ t < 64) ∧ PpO M o (M 200) t) : Runs sx_X5_hiddenKinds L (xcF scr) (fun x M' => (fmk (M 200) t) = x ∧ (M) = M') 0 [wR o, wI t, none, none, none, none] [] M := by
  obtain ⟨hd, h1, hP⟩ := hp
  obtain ⟨⟨g3, g4, g5⟩, g6, g7, g8⟩ := id hP
  have hb := hd.bd
  have L1 : ∀ (n i : Nat) (u v : PV), i + n = 6 → Runs sx_X5_hiddenKinds L (xcF scr) (fun x M' => (fmk (M 200) t) = x ∧ M = M') 4 [wR o, wI t, wI (fP (M 200) t i), wI (i : Int), u, v] [] M := by
    intro n
    induction n with
    | zero =>
      intro i u v hi
      have hi : i = 6 := by omega
      subst hi
      refine R_iload_n (q := 5) (i := 3) rfl rfl rfl rfl ?_
      refine R_bipush (q := 7) rfl rfl (by decide) ?_
      refine R_icmp_ge (q := 10) (tgt := 72) rfl rfl (by decide) (by omega) (by omega) (fun h7 => ?_) (fun h7 => ?_)
      · refine R_iload_n (q := 73) (i := 2) rfl rfl rfl rfl ?_
        refine R_ret rfl (Or.inl rfl) ?_
        exact ⟨(fP_6 _ _).symm, rfl⟩
      · omega
    | succ n ih =>
      intro i u v hi
      have hb := fP_bd (M 200) t i (by omega)
      have hk : 0 ≤ (i : Int) ∧ (i : Int) < 6 := by omega
      have d1 := dig_bd (k := (i : Int)) g6
      have d2 := dig_bd (k := (i : Int)) g7
      have d3 := dig_bd (k := (i : Int)) g8
      refine R_iload_n (q := 5) (i := 3) rfl rfl rfl rfl ?_
      refine R_bipush (q := 7) rfl rfl (by decide) ?_
      refine R_icmp_ge (q := 10) (tgt := 72) rfl rfl (by decide) (by omega) (by omega) (fun h7 => ?_) (fun h7 => ?_)
      · omega
      · refine R_aload_n (q := 11) (i := 0) rfl rfl rfl rfl ?_
        refine R_getR (q := 14) rfl rfl rfl (lay_tk hd) rfl (by omega) ?_
        refine R_iconst (q := 15) rfl rfl ?_
        refine R_aald (q := 16) (r2 := o + 3) rfl rfl (lay_tp hd) (by omega) (by omega) rfl ?_
        refine R_iload_n (q := 17) (i := 1) rfl rfl rfl rfl ?_
        refine R_iald (q := 18) (v := nib (M 200 (87 + 9 * t))) rfl rfl (lay_ta hd rfl) (by omega) (by omega) g3 ?_
        refine R_iload_n (q := 19) (i := 3) rfl rfl rfl rfl ?_
        refine R_cS2I (q := 22) (ci := 9) (C := C_X3_piecesOf) rfl rfl rfl rfl rfl ⟨_, _, rfl, ⟨nib_bd g6, hk⟩⟩ rfl rfl (fun x M' hc => ?_)
        replace hc := hc _ _ rfl
        obtain ⟨hc, rfl⟩ := hc
        rw [nib_dig g6 hk] at hc
        subst hc
        refine R_istore (q := 24) rfl rfl rfl ?_
        refine R_aload_n (q := 25) (i := 0) rfl rfl rfl rfl ?_
        refine R_getR (q := 28) rfl rfl rfl (lay_tk hd) rfl (by omega) ?_
        refine R_iconst (q := 29) rfl rfl ?_
        refine R_aald (q := 30) (r2 := o + 4) rfl rfl (lay_tp hd) (by omega) (by omega) rfl ?_
        refine R_iload_n (q := 31) (i := 1) rfl rfl rfl rfl ?_
        refine R_iald (q := 32) (v := nib (M 200 (88 + 9 * t))) rfl rfl (lay_ta hd rfl) (by omega) (by omega) g4 ?_
        refine R_iload_n (q := 33) (i := 3) rfl rfl rfl rfl ?_
        refine R_cS2I (q := 36) (ci := 9) (C := C_X3_piecesOf) rfl rfl rfl rfl rfl ⟨_, _, rfl, ⟨nib_bd g7, hk⟩⟩ rfl rfl (fun x M' hc => ?_)
        replace hc := hc _ _ rfl
        obtain ⟨hc, rfl⟩ := hc
        rw [nib_dig g7 hk] at hc
        subst hc
        refine R_istore (q := 38) rfl rfl rfl ?_
        refine R_aload_n (q := 39) (i := 0) rfl rfl rfl rfl ?_
        refine R_getR (q := 42) rfl rfl rfl (lay_tk hd) rfl (by omega) ?_
        refine R_iconst (q := 43) rfl rfl ?_
        refine R_aald (q := 44) (r2 := o + 5) rfl rfl (lay_tp hd) (by omega) (by omega) rfl ?_
        refine R_iload_n (q := 45) (i := 1) rfl rfl rfl rfl ?_
        refine R_iald (q := 46) (v := nib (M 200 (89 + 9 * t))) rfl rfl (lay_ta hd rfl) (by omega) (by omega) g5 ?_
        refine R_iload_n (q := 47) (i := 3) rfl rfl rfl rfl ?_
        refine R_cS2I (q := 50) (ci := 9) (C := C_X3_piecesOf) rfl rfl rfl rfl rfl ⟨_, _, rfl, ⟨nib_bd g8, hk⟩⟩ rfl rfl (fun x M' hc => ?_)
        replace hc := hc _ _ rfl
        obtain ⟨hc, rfl⟩ := hc
        rw [nib_dig g8 hk] at hc
        subst hc
        refine R_iload (q := 52) rfl rfl rfl ?_
        refine R_iload (q := 54) rfl rfl rfl ?_
        refine R_mmax (q := 57) rfl rfl rfl (by omega) (by omega) rfl ?_
        refine R_icmp_le (q := 60) (tgt := 66) rfl rfl (by decide) (by omega) (by split <;> omega) (fun h57 => ?_) (fun h57 => ?_)
        · have e : fP (M 200) t i = fP (M 200) t (i + 1) := by
            show _ = fP (M 200) t i + ms (M 200) t (i : Int) * p2 (i : Int)
            unfold ms
            rw [bt_f (by split at h57 <;> omega)]
            omega
          refine R_iinc (q := 69) rfl rfl rfl rfl ?_
          refine R_goto (q := 72) (tgt := 4) rfl rfl (by decide) ?_
          rw [e]
          exact ih (i + 1) _ _ (by omega)
        · have e : xior (fP (M 200) t i) (xishl 1 (i : Int)) = fP (M 200) t (i + 1) := by
            rw [ior_shl hk hb (by omega)]
            show _ = fP (M 200) t i + ms (M 200) t (i : Int) * p2 (i : Int)
            unfold ms
            rw [bt_t (by split at h57 <;> omega)]
          refine R_iload_n (q := 61) (i := 2) rfl rfl rfl rfl ?_
          refine R_iconst (q := 62) rfl rfl ?_
          refine R_iload_n (q := 63) (i := 3) rfl rfl rfl rfl ?_
          refine R_ishl (q := 64) rfl rfl ?_
          refine R_ior (q := 65) rfl rfl ?_
          refine R_istore_n (q := 66) (i := 2) rfl rfl rfl rfl ?_
          refine R_iinc (q := 69) rfl rfl rfl rfl ?_
          refine R_goto (q := 72) (tgt := 4) rfl rfl (by decide) ?_
          rw [e]
          exact ih (i + 1) _ _ (by omega)
  refine R_iconst (q := 1) rfl rfl ?_
  refine R_istore_n (q := 2) (i := 2) rfl rfl rfl rfl ?_
  refine R_iconst (q := 3) rfl rfl ?_
  refine R_istore_n (q := 4) (i := 3) rfl rfl rfl rfl ?_
  exact L1 6 0 _ _ rfl
set_option maxRecDepth 100000 in
theorem mt_X5_hiddenKinds : MtOK yX5_hiddenKinds cX5_hiddenKinds 6 (some .int) 1 C_X5_hiddenKinds := by
  refine mt_of sx_X5_hiddenKinds (by decide +kernel) (Or.inl ⟨rfl, rfl, rfl⟩) (by decide +kernel) fdX5_ok kLX5_ok kIX5_ok sgX5_ok ntX5_ok
    (all_cons (clokS mt_X3_piecesOf (GT_at 377 (by decide +kernel) (by decide +kernel)) (GT_at 17 (by decide +kernel) (by decide +kernel)) (GT_at 379 (by decide +kernel) (by decide +kernel)) (by decide +kernel) (by decide) (GT_at 378 (by decide +kernel) (by decide +kernel))) (all_nil)) ?_ ?_
  · rintro as M - ⟨o, t, rfl, hp⟩
    exact Nat.le_of_ble_eq_true rfl
  · rintro L scr as M - ⟨o, t, rfl, hp⟩
    exact Runs.mono (fun x M' h _ _ e => by cases e; exact h) (ok_X5_hiddenKinds L scr o t M hp)
abbrev C_X5_countWithFate : Ct := (2, true, fun as M => ∃ (o : Nat) (w : Int), as = [wR o, wI w] ∧ (isTk o ∧ (0 ≤ M o 0 ∧ M o 0 ≤ 64) ∧ inr w ∧ ∀ t, 0 ≤ t → t < M o 0 → M (o + 8) t = M 200 (90 + 9 * t) ∧ inr (M 200 (90 + 9 * t))), fun as M x M' => ∀ (o : Nat) (w : Int), as = [wR o, wI w] → ((cF (M 200) w (M o 0).toNat) = x ∧ (M) = M'))
def sx_X5_countWithFate : Sx := (tb_X5_countWithFate, fdX5, kLX5, kIX5, sgX5, ntX5, [], 1)
set_option maxRecDepth 100000 in
set_option maxHeartbeats 1000000 in
theorem ok_X5_countWithFate (L : Nat) (scr : Int → Int) (o : Nat) (w : Int) (M : Mem) (hp : isTk o ∧ (0 ≤ M o 0 ∧ M o 0 ≤ 64) ∧ inr w ∧ ∀ t, 0 ≤ t → t < M o 0 → M (o + 8) t = M 200 (90 + 9 * t) ∧ inr (M 200 (90 + 9 * t))) : Runs sx_X5_countWithFate L (xcF scr) (fun x M' => (cF (M 200) w (M o 0).toNat) = x ∧ (M) = M') 0 [wR o, wI w, none, none] [] M := by
  obtain ⟨hd, h1, h2, h3⟩ := hp
  have hb := hd.bd
  have L1 : ∀ (n i : Nat), i + n = (M o 0).toNat → Runs sx_X5_countWithFate L (xcF scr) (fun x M' => cF (M 200) w (M o 0).toNat = x ∧ M = M') 4 [wR o, wI w, wI (cF (M 200) w i), wI (i : Int)] [] M := by
    intro n
    induction n with
    | zero =>
      intro i hi
      refine R_iload_n (q := 5) (i := 3) rfl rfl rfl rfl ?_
      refine R_aload_n (q := 6) (i := 0) rfl rfl rfl rfl ?_
      refine R_getI (q := 9) (k1 := 0) rfl rfl rfl (lay_tk hd) rfl (by omega) rfl ?_
      refine R_icmp_ge (q := 12) (tgt := 31) rfl rfl (by decide) (by omega) (by omega) (fun h9 => ?_) (fun h9 => ?_)
      · refine R_iload_n (q := 32) (i := 2) rfl rfl rfl rfl ?_
        refine R_ret rfl (Or.inl rfl) ?_
        exact ⟨by rw [← hi]; rfl, rfl⟩
      · omega
    | succ n ih =>
      intro i hi
      obtain ⟨e1, e2⟩ := h3 i (by omega) (by omega)
      have ec : cF (M 200) w (i + 1) = cF (M 200) w i + bt_ (M 200 (90 + 9 * (i : Int)) = w) 1 := rfl
      refine R_iload_n (q := 5) (i := 3) rfl rfl rfl rfl ?_
      refine R_aload_n (q := 6) (i := 0) rfl rfl rfl rfl ?_
      refine R_getI (q := 9) (k1 := 0) rfl rfl rfl (lay_tk hd) rfl (by omega) rfl ?_
      refine R_icmp_ge (q := 12) (tgt := 31) rfl rfl (by decide) (by omega) (by omega) (fun h9 => ?_) (fun h9 => ?_)
      · omega
      · refine R_aload_n (q := 13) (i := 0) rfl rfl rfl rfl ?_
        refine R_getR (q := 16) rfl rfl rfl (lay_tk hd) rfl (by omega) ?_
        refine R_iload_n (q := 17) (i := 3) rfl rfl rfl rfl ?_
        refine R_iald (q := 18) (v := M 200 (90 + 9 * (i : Int))) rfl rfl (lay_ta hd rfl) (by omega) (by omega) e1 ?_
        refine R_iload_n (q := 19) (i := 1) rfl rfl rfl rfl ?_
        refine R_icmp_ne (q := 22) (tgt := 25) rfl rfl (by decide) (by omega) (by omega) (fun h19 => ?_) (fun h19 => ?_)
        · rw [bt_f h19] at ec
          refine R_iinc (q := 28) rfl rfl rfl rfl ?_
          refine R_goto (q := 31) (tgt := 4) rfl rfl (by decide) ?_
          first
            | (rw [← ec]; exact ih (i + 1) (by omega))
            | (rw [show cF (M 200) w i = cF (M 200) w (i + 1) by omega]; exact ih (i + 1) (by omega))
        · rw [bt_t (by omega)] at ec
          refine R_iinc (q := 25) rfl rfl rfl rfl ?_
          refine R_iinc (q := 28) rfl rfl rfl rfl ?_
          refine R_goto (q := 31) (tgt := 4) rfl rfl (by decide) ?_
          first
            | (rw [← ec]; exact ih (i + 1) (by omega))
            | (rw [show cF (M 200) w i = cF (M 200) w (i + 1) by omega]; exact ih (i + 1) (by omega))
  refine R_iconst (q := 1) rfl rfl ?_
  refine R_istore_n (q := 2) (i := 2) rfl rfl rfl rfl ?_
  refine R_iconst (q := 3) rfl rfl ?_
  refine R_istore_n (q := 4) (i := 3) rfl rfl rfl rfl ?_
  exact L1 (M o 0).toNat 0 (by omega)
set_option maxRecDepth 100000 in
theorem mt_X5_countWithFate : MtOK yX5_countWithFate cX5_countWithFate 4 (some .int) 0 C_X5_countWithFate := by
  refine mt_of sx_X5_countWithFate (by decide +kernel) (Or.inl ⟨rfl, rfl, rfl⟩) (by decide +kernel) fdX5_ok kLX5_ok kIX5_ok sgX5_ok ntX5_ok
    (all_nil) ?_ ?_
  · rintro as M - ⟨o, w, rfl, hp⟩
    exact Nat.le_of_ble_eq_true rfl
  · rintro L scr as M - ⟨o, w, rfl, hp⟩
    exact Runs.mono (fun x M' h _ _ e => by cases e; exact h) (ok_X5_countWithFate L scr o w M hp)
abbrev C_X5_countOpenedUnfined : Ct := (1, true, fun as M => ∃ (o : Nat), as = [wR o] ∧ (isTk o ∧ (0 ≤ M o 0 ∧ M o 0 ≤ 64) ∧ ∀ t, 0 ≤ t → t < M o 0 → (M (o + 8) t = M 200 (90 + 9 * t) ∧ inr (M 200 (90 + 9 * t))) ∧ M (o + 9) t = M 200 (93 + 9 * t) ∧ inr (M 200 (93 + 9 * t))), fun as M x M' => ∀ (o : Nat), as = [wR o] → ((cU (M 200) (M o 0).toNat) = x ∧ (M) = M'))
def sx_X5_countOpenedUnfined : Sx := (tb_X5_countOpenedUnfined, fdX5, kLX5, kIX5, sgX5, ntX5, [], 1)
set_option maxRecDepth 100000 in
set_option maxHeartbeats 1000000 in
theorem ok_X5_countOpenedUnfined (L : Nat) (scr : Int → Int) (o : Nat) (M : Mem) (hp : isTk o ∧ (0 ≤ M o 0 ∧ M o 0 ≤ 64) ∧ ∀ t, 0 ≤ t → t < M o 0 → (M (o + 8) t = M 200 (90 + 9 * t) ∧ inr (M 200 (90 + 9 * t))) ∧ M (o + 9) t = M 200 (93 + 9 * t) ∧ inr (M 200 (93 + 9 * t))) : Runs sx_X5_countOpenedUnfined L (xcF scr) (fun x M' => (cU (M 200) (M o 0).toNat) = x ∧ (M) = M') 0 [wR o, none, none] [] M := by
  obtain ⟨hd, h1, h3⟩ := hp
  have hb := hd.bd
  have L1 : ∀ (n i : Nat), i + n = (M o 0).toNat → Runs sx_X5_countOpenedUnfined L (xcF scr) (fun x M' => cU (M 200) (M o 0).toNat = x ∧ M = M') 4 [wR o, wI (cU (M 200) i), wI (i : Int)] [] M := by
    intro n
    induction n with
    | zero =>
      intro i hi
      refine R_iload_n (q := 5) (i := 2) rfl rfl rfl rfl ?_
      refine R_aload_n (q := 6) (i := 0) rfl rfl rfl rfl ?_
      refine R_getI (q := 9) (k1 := 0) rfl rfl rfl (lay_tk hd) rfl (by omega) rfl ?_
      refine R_icmp_ge (q := 12) (tgt := 40) rfl rfl (by decide) (by omega) (by omega) (fun h9 => ?_) (fun h9 => ?_)
      · refine R_iload_n (q := 41) (i := 1) rfl rfl rfl rfl ?_
        refine R_ret rfl (Or.inl rfl) ?_
        exact ⟨by rw [← hi]; rfl, rfl⟩
      · omega
    | succ n ih =>
      intro i hi
      obtain ⟨⟨e1, e2⟩, e3, e4⟩ := h3 i (by omega) (by omega)
      have ec : cU (M 200) (i + 1) = cU (M 200) i + bt_ (M 200 (90 + 9 * (i : Int)) = 2 ∧ M 200 (93 + 9 * (i : Int)) = 0) 1 := rfl
      refine R_iload_n (q := 5) (i := 2) rfl rfl rfl rfl ?_
      refine R_aload_n (q := 6) (i := 0) rfl rfl rfl rfl ?_
      refine R_getI (q := 9) (k1 := 0) rfl rfl rfl (lay_tk hd) rfl (by omega) rfl ?_
      refine R_icmp_ge (q := 12) (tgt := 40) rfl rfl (by decide) (by omega) (by omega) (fun h9 => ?_) (fun h9 => ?_)
      · omega
      · refine R_aload_n (q := 13) (i := 0) rfl rfl rfl rfl ?_
        refine R_getR (q := 16) rfl rfl rfl (lay_tk hd) rfl (by omega) ?_
        refine R_iload_n (q := 17) (i := 2) rfl rfl rfl rfl ?_
        refine R_iald (q := 18) (v := M 200 (90 + 9 * (i : Int))) rfl rfl (lay_ta hd rfl) (by omega) (by omega) e1 ?_
        refine R_iconst (q := 19) rfl rfl ?_
        refine R_icmp_ne (q := 22) (tgt := 34) rfl rfl (by decide) (by omega) (by omega) (fun h19 => ?_) (fun h19 => ?_)
        · rw [bt_f (by omega)] at ec
          refine R_iinc (q := 37) rfl rfl rfl rfl ?_
          refine R_goto (q := 40) (tgt := 4) rfl rfl (by decide) ?_
          first
            | (rw [← ec]; exact ih (i + 1) (by omega))
            | (rw [show cU (M 200) i = cU (M 200) (i + 1) by omega]; exact ih (i + 1) (by omega))
        · refine R_aload_n (q := 23) (i := 0) rfl rfl rfl rfl ?_
          refine R_getR (q := 26) rfl rfl rfl (lay_tk hd) rfl (by omega) ?_
          refine R_iload_n (q := 27) (i := 2) rfl rfl rfl rfl ?_
          refine R_iald (q := 28) (v := M 200 (93 + 9 * (i : Int))) rfl rfl (lay_ta hd rfl) (by omega) (by omega) e3 ?_
          refine R_if_ne (q := 31) (tgt := 34) rfl rfl (by decide) (by omega) (fun h28 => ?_) (fun h28 => ?_)
          · rw [bt_f (by omega)] at ec
            refine R_iinc (q := 37) rfl rfl rfl rfl ?_
            refine R_goto (q := 40) (tgt := 4) rfl rfl (by decide) ?_
            first
              | (rw [← ec]; exact ih (i + 1) (by omega))
              | (rw [show cU (M 200) i = cU (M 200) (i + 1) by omega]; exact ih (i + 1) (by omega))
          · rw [bt_t (by omega)] at ec
            refine R_iinc (q := 34) rfl rfl rfl rfl ?_
            refine R_iinc (q := 37) rfl rfl rfl rfl ?_
            refine R_goto (q := 40) (tgt := 4) rfl rfl (by decide) ?_
            first
              | (rw [← ec]; exact ih (i + 1) (by omega))
              | (rw [show cU (M 200) i = cU (M 200) (i + 1) by omega]; exact ih (i + 1) (by omega))
  refine R_iconst (q := 1) rfl rfl ?_
  refine R_istore_n (q := 2) (i := 1) rfl rfl rfl rfl ?_
  refine R_iconst (q := 3) rfl rfl ?_
  refine R_istore_n (q := 4) (i := 2) rfl rfl rfl rfl ?_
  exact L1 (M o 0).toNat 0 (by omega)
set_option maxRecDepth 100000 in
theorem mt_X5_countOpenedUnfined : MtOK yX5_countOpenedUnfined cX5_countOpenedUnfined 3 (some .int) 0 C_X5_countOpenedUnfined := by
  refine mt_of sx_X5_countOpenedUnfined (by decide +kernel) (Or.inl ⟨rfl, rfl, rfl⟩) (by decide +kernel) fdX5_ok kLX5_ok kIX5_ok sgX5_ok ntX5_ok
    (all_nil) ?_ ?_
  · rintro as M - ⟨o, rfl, hp⟩
    exact Nat.le_of_ble_eq_true rfl
  · rintro L scr as M - ⟨o, rfl, hp⟩
    exact Runs.mono (fun x M' h _ e => by cases e; exact h) (ok_X5_countOpenedUnfined L scr o M hp)
def bcn (k : Int) : Int := k % 2 + k / 2 % 2 + k / 4 % 2 + k / 8 % 2 + k / 16 % 2 + k / 32 % 2
theorem bc_n : ∀ n : Nat, n < 64 → xiand (xiand (xiand (((n : Nat) : Int) - xiand (xiushr (n : Int) 1) 1431655765) 858993459 + xiand (xiushr (((n : Nat) : Int) - xiand (xiushr (n : Int) 1) 1431655765) 2) 858993459 + xiushr (xiand (((n : Nat) : Int) - xiand (xiushr (n : Int) 1) 1431655765) 858993459 + xiand (xiushr (((n : Nat) : Int) - xiand (xiushr (n : Int) 1) 1431655765) 2) 858993459) 4) 252645135 + xiushr (xiand (xiand (((n : Nat) : Int) - xiand (xiushr (n : Int) 1) 1431655765) 858993459 + xiand (xiushr (((n : Nat) : Int) - xiand (xiushr (n : Int) 1) 1431655765) 2) 858993459 + xiushr (xiand (((n : Nat) : Int) - xiand (xiushr (n : Int) 1) 1431655765) 858993459 + xiand (xiushr (((n : Nat) : Int) - xiand (xiushr (n : Int) 1) 1431655765) 2) 858993459) 4) 252645135) 8 + xiushr (xiand (xiand (((n : Nat) : Int) - xiand (xiushr (n : Int) 1) 1431655765) 858993459 + xiand (xiushr (((n : Nat) : Int) - xiand (xiushr (n : Int) 1) 1431655765) 2) 858993459 + xiushr (xiand (((n : Nat) : Int) - xiand (xiushr (n : Int) 1) 1431655765) 858993459 + xiand (xiushr (((n : Nat) : Int) - xiand (xiushr (n : Int) 1) 1431655765) 2) 858993459) 4) 252645135 + xiushr (xiand (xiand (((n : Nat) : Int) - xiand (xiushr (n : Int) 1) 1431655765) 858993459 + xiand (xiushr (((n : Nat) : Int) - xiand (xiushr (n : Int) 1) 1431655765) 2) 858993459 + xiushr (xiand (((n : Nat) : Int) - xiand (xiushr (n : Int) 1) 1431655765) 858993459 + xiand (xiushr (((n : Nat) : Int) - xiand (xiushr (n : Int) 1) 1431655765) 2) 858993459) 4) 252645135) 8) 16) 63 = bcn (n : Int) := by decide +kernel
abbrev C_J6_bitCount_0f7a4 : Ct := (1, true, fun as M => ∃ (k : Int), as = [wI k] ∧ (0 ≤ k ∧ k < 64), fun as M x M' => ∀ (k : Int), as = [wI k] → ((bcn k) = x ∧ (M) = M'))
def sx_J6_bitCount_0f7a4 : Sx := (tb_J6_bitCount_0f7a4, fdJ6, kLJ6, kIJ6, sgJ6, ntJ6, [], 1)
set_option maxRecDepth 100000 in
set_option maxHeartbeats 1000000 in
theorem ok_J6_bitCount_0f7a4 (L : Nat) (scr : Int → Int) (k : Int) (M : Mem) (hp : 0 ≤ k ∧ k < 64) : Runs sx_J6_bitCount_0f7a4 L (xcF scr) (fun x M' => (bcn k) = x ∧ (M) = M') 0 [wI k] [] M := by
  obtain ⟨n, rfl⟩ : ∃ n : Nat, k = n := ⟨k.toNat, by omega⟩
  refine R_iload_n (q := 1) (i := 0) rfl rfl rfl rfl ?_
  refine R_iload_n (q := 2) (i := 0) rfl rfl rfl rfl ?_
  refine R_iconst (q := 3) rfl rfl ?_
  refine R_iushr (q := 4) rfl rfl ?_
  refine R_ldcw (q := 7) rfl rfl rfl ?_
  refine R_iand (q := 8) rfl rfl ?_
  refine R_isub (q := 9) rfl rfl ?_
  refine R_istore_n (q := 10) (i := 0) rfl rfl rfl rfl ?_
  refine R_iload_n (q := 11) (i := 0) rfl rfl rfl rfl ?_
  refine R_ldcw (q := 14) rfl rfl rfl ?_
  refine R_iand (q := 15) rfl rfl ?_
  refine R_iload_n (q := 16) (i := 0) rfl rfl rfl rfl ?_
  refine R_iconst (q := 17) rfl rfl ?_
  refine R_iushr (q := 18) rfl rfl ?_
  refine R_ldcw (q := 21) rfl rfl rfl ?_
  refine R_iand (q := 22) rfl rfl ?_
  refine R_iadd (q := 23) rfl rfl ?_
  refine R_istore_n (q := 24) (i := 0) rfl rfl rfl rfl ?_
  refine R_iload_n (q := 25) (i := 0) rfl rfl rfl rfl ?_
  refine R_iload_n (q := 26) (i := 0) rfl rfl rfl rfl ?_
  refine R_iconst (q := 27) rfl rfl ?_
  refine R_iushr (q := 28) rfl rfl ?_
  refine R_iadd (q := 29) rfl rfl ?_
  refine R_ldcw (q := 32) rfl rfl rfl ?_
  refine R_iand (q := 33) rfl rfl ?_
  refine R_istore_n (q := 34) (i := 0) rfl rfl rfl rfl ?_
  refine R_iload_n (q := 35) (i := 0) rfl rfl rfl rfl ?_
  refine R_iload_n (q := 36) (i := 0) rfl rfl rfl rfl ?_
  refine R_bipush (q := 38) rfl rfl (by decide) ?_
  refine R_iushr (q := 39) rfl rfl ?_
  refine R_iadd (q := 40) rfl rfl ?_
  refine R_istore_n (q := 41) (i := 0) rfl rfl rfl rfl ?_
  refine R_iload_n (q := 42) (i := 0) rfl rfl rfl rfl ?_
  refine R_iload_n (q := 43) (i := 0) rfl rfl rfl rfl ?_
  refine R_bipush (q := 45) rfl rfl (by decide) ?_
  refine R_iushr (q := 46) rfl rfl ?_
  refine R_iadd (q := 47) rfl rfl ?_
  refine R_istore_n (q := 48) (i := 0) rfl rfl rfl rfl ?_
  refine R_iload_n (q := 49) (i := 0) rfl rfl rfl rfl ?_
  refine R_bipush (q := 51) rfl rfl (by decide) ?_
  refine R_iand (q := 52) rfl rfl ?_
  refine R_ret rfl (Or.inl rfl) ?_
  exact ⟨(bc_n n (by omega)).symm, rfl⟩
set_option maxRecDepth 100000 in
theorem mt_J6_bitCount_0f7a4 : MtOK yJ6_bitCount_0f7a4 cJ6_bitCount_0f7a4 1 (some .int) 0 C_J6_bitCount_0f7a4 := by
  refine mt_of sx_J6_bitCount_0f7a4 (by decide +kernel) (Or.inl ⟨rfl, rfl, rfl⟩) (by decide +kernel) fdJ6_ok kLJ6_ok kIJ6_ok sgJ6_ok ntJ6_ok
    (all_nil) ?_ ?_
  · rintro as M - ⟨k, rfl, hp⟩
    exact Nat.le_of_ble_eq_true rfl
  · rintro L scr as M - ⟨k, rfl, hp⟩
    exact Runs.mono (fun x M' h _ e => by cases e; exact h) (ok_J6_bitCount_0f7a4 L scr k M hp)
theorem bcn_fmk (f : Int → Int) (t : Int) : bcn (fmk f t) = fnm f t := by
  have h0 := ms_01 f t 0
  have h1 := ms_01 f t 1
  have h2 := ms_01 f t 2
  have h3 := ms_01 f t 3
  have h4 := ms_01 f t 4
  have h5 := ms_01 f t 5
  unfold bcn fmk fnm
  omega
theorem taB_bd {i : Nat} (h : taB i = true) : 1 ≤ i ∧ i ≤ 10 := by
  unfold taB at h
  split at h <;> first | omega | cases h
/-- a copy of some rows is made -/
def CpI (M N : Mem) (o o2 : Nat) (n : Int) (S : List Nat) : Prop := N o 0 = n ∧ (∀ i, i ∈ S → ∀ t, 0 ≤ t → t < n → N (o + i) t = M (o2 + i) t) ∧ ∀ r, (r < o ∨ o + 10 < r) → N r = M r
theorem CpI.cp {M N : Mem} {o o2 : Nat} {n : Int} {S : List Nat} (i : Nat) (h : CpI M N o o2 n S) (hne : o2 + 10 < o ∨ o + 10 < o2) (hi : taB i = true) : CpI M (cpM N (o2 + i) 0 (o + i) 0 (N o 0)) o o2 n (i :: S) := by
  obtain ⟨h1, h2, h3⟩ := h
  have := taB_bd hi
  refine ⟨?_, fun j hj t a b => ?_, fun r hr => ?_⟩
  · rw [cpM_ne o (by omega), h1]
  · by_cases e : j = i
    · subst e
      unfold cpM
      rw [if_pos (by omega), show (0 : Int) + (t - 0) = t by omega, h3 _ (by omega)]
    · rw [cpM_ne _ (by omega)]
      rcases List.mem_cons.mp hj with hj | hj
      · exact absurd hj e
      · exact h2 j hj t a b
  · rw [cpM_ne _ (by omega), h3 r hr]
abbrev C_X5_copyFrom : Ct := (2, false, fun as M => ∃ (o : Nat) (o2 : Nat), as = [wR o, wR o2] ∧ (isTk o ∧ isTk o2 ∧ (o2 + 10 < o ∨ o + 10 < o2) ∧ 0 ≤ M o2 0 ∧ M o2 0 ≤ 64), fun as M x M' => ∀ (o : Nat) (o2 : Nat), as = [wR o, wR o2] → (CpI M M' o o2 (M o2 0) [10, 9, 8, 7, 6, 5, 4, 3, 1]))
def sx_X5_copyFrom : Sx := (tb_X5_copyFrom, fdX5, kLX5, kIX5, sgX5, ntX5, [], 0)
set_option maxRecDepth 100000 in
set_option maxHeartbeats 1000000 in
theorem ok_X5_copyFrom (L : Nat) (scr : Int → Int) (o : Nat) (o2 : Nat) (M : Mem) (hp : isTk o ∧ isTk o2 ∧ (o2 + 10 < o ∨ o + 10 < o2) ∧ 0 ≤ M o2 0 ∧ M o2 0 ≤ 64) : Runs sx_X5_copyFrom L (xcF scr) (fun x M' => CpI M M' o o2 (M o2 0) [10, 9, 8, 7, 6, 5, 4, 3, 1]) 0 [wR o, wR o2, none] [] M := by
  obtain ⟨hd, hd2, hne, g1, g2⟩ := hp
  have hb := hd.bd
  have hb2 := hd2.bd
  have I0 : CpI M (upM M o 0 (M o2 0)) o o2 (M o2 0) [] := ⟨upM_s, fun i h => absurd h List.not_mem_nil, fun r hr => upM_r (by omega)⟩
  have z0 := I0.1
  refine R_aload_n (q := 1) (i := 0) rfl rfl rfl rfl ?_
  refine R_aload_n (q := 2) (i := 1) rfl rfl rfl rfl ?_
  refine R_getI (q := 5) (k1 := 0) rfl rfl rfl (lay_tk hd2) rfl (by omega) rfl ?_
  refine R_putI (q := 8) (k1 := 0) rfl rfl rfl (lay_tk hd) rfl (by omega) rfl rfl rfl rfl ?_
  generalize upM M o 0 (M o2 0) = N0 at z0 I0 ⊢
  refine R_aload_n (q := 9) (i := 1) rfl rfl rfl rfl ?_
  refine R_getR (q := 12) rfl rfl rfl (lay_tk hd2) rfl (by omega) ?_
  refine R_iconst (q := 13) rfl rfl ?_
  refine R_aload_n (q := 14) (i := 0) rfl rfl rfl rfl ?_
  refine R_getR (q := 17) rfl rfl rfl (lay_tk hd) rfl (by omega) ?_
  refine R_iconst (q := 18) rfl rfl ?_
  refine R_aload_n (q := 19) (i := 0) rfl rfl rfl rfl ?_
  refine R_getI (q := 22) (k1 := 0) rfl rfl rfl (lay_tk hd) rfl (by omega) rfl ?_
  refine R_copy (q := 25) rfl rfl rfl (lay_ta hd2 rfl) (lay_ta hd rfl) (by omega) (by omega) rfl rfl ?_
  have I1 := I0.cp 1 hne rfl
  have z1 := I1.1
  generalize cpM N0 (o2 + 1) 0 (o + 1) 0 (N0 o 0) = N1 at z1 I1 ⊢
  refine R_iconst (q := 26) rfl rfl ?_
  refine R_istore_n (q := 27) (i := 2) rfl rfl rfl rfl ?_
  refine R_iload_n (q := 28) (i := 2) rfl rfl rfl rfl ?_
  refine R_iconst (q := 29) rfl rfl ?_
  refine R_icmp_ge (q := 32) (tgt := 59) rfl rfl (by decide) (by omega) (by omega) (fun h29 => ?_) (fun h29 => ?_)
  · omega
  · refine R_aload_n (q := 33) (i := 1) rfl rfl rfl rfl ?_
    refine R_getR (q := 36) rfl rfl rfl (lay_tk hd2) rfl (by omega) ?_
    refine R_iload_n (q := 37) (i := 2) rfl rfl rfl rfl ?_
    refine R_aald (q := 38) (r2 := o2 + 3) rfl rfl (lay_tp hd2) (by omega) (by omega) rfl ?_
    refine R_iconst (q := 39) rfl rfl ?_
    refine R_aload_n (q := 40) (i := 0) rfl rfl rfl rfl ?_
    refine R_getR (q := 43) rfl rfl rfl (lay_tk hd) rfl (by omega) ?_
    refine R_iload_n (q := 44) (i := 2) rfl rfl rfl rfl ?_
    refine R_aald (q := 45) (r2 := o + 3) rfl rfl (lay_tp hd) (by omega) (by omega) rfl ?_
    refine R_iconst (q := 46) rfl rfl ?_
    refine R_aload_n (q := 47) (i := 0) rfl rfl rfl rfl ?_
    refine R_getI (q := 50) (k1 := 0) rfl rfl rfl (lay_tk hd) rfl (by omega) rfl ?_
    refine R_copy (q := 53) rfl rfl rfl (lay_ta hd2 rfl) (lay_ta hd rfl) (by omega) (by omega) rfl rfl ?_
    have I2 := I1.cp 3 hne rfl
    have z2 := I2.1
    generalize cpM N1 (o2 + 3) 0 (o + 3) 0 (N1 o 0) = N2 at z2 I2 ⊢
    refine R_iinc (q := 56) rfl rfl rfl rfl ?_
    refine R_goto (q := 59) (tgt := 27) rfl rfl (by decide) ?_
    refine R_iload_n (q := 28) (i := 2) rfl rfl rfl rfl ?_
    refine R_iconst (q := 29) rfl rfl ?_
    refine R_icmp_ge (q := 32) (tgt := 59) rfl rfl (by decide) (by omega) (by omega) (fun h29 => ?_) (fun h29 => ?_)
    · omega
    · refine R_aload_n (q := 33) (i := 1) rfl rfl rfl rfl ?_
      refine R_getR (q := 36) rfl rfl rfl (lay_tk hd2) rfl (by omega) ?_
      refine R_iload_n (q := 37) (i := 2) rfl rfl rfl rfl ?_
      refine R_aald (q := 38) (r2 := o2 + 4) rfl rfl (lay_tp hd2) (by omega) (by omega) rfl ?_
      refine R_iconst (q := 39) rfl rfl ?_
      refine R_aload_n (q := 40) (i := 0) rfl rfl rfl rfl ?_
      refine R_getR (q := 43) rfl rfl rfl (lay_tk hd) rfl (by omega) ?_
      refine R_iload_n (q := 44) (i := 2) rfl rfl rfl rfl ?_
      refine R_aald (q := 45) (r2 := o + 4) rfl rfl (lay_tp hd) (by omega) (by omega) rfl ?_
      refine R_iconst (q := 46) rfl rfl ?_
      refine R_aload_n (q := 47) (i := 0) rfl rfl rfl rfl ?_
      refine R_getI (q := 50) (k1 := 0) rfl rfl rfl (lay_tk hd) rfl (by omega) rfl ?_
      refine R_copy (q := 53) rfl rfl rfl (lay_ta hd2 rfl) (lay_ta hd rfl) (by omega) (by omega) rfl rfl ?_
      have I3 := I2.cp 4 hne rfl
      have z3 := I3.1
      generalize cpM N2 (o2 + 4) 0 (o + 4) 0 (N2 o 0) = N3 at z3 I3 ⊢
      refine R_iinc (q := 56) rfl rfl rfl rfl ?_
      refine R_goto (q := 59) (tgt := 27) rfl rfl (by decide) ?_
      refine R_iload_n (q := 28) (i := 2) rfl rfl rfl rfl ?_
      refine R_iconst (q := 29) rfl rfl ?_
      refine R_icmp_ge (q := 32) (tgt := 59) rfl rfl (by decide) (by omega) (by omega) (fun h29 => ?_) (fun h29 => ?_)
      · omega
      · refine R_aload_n (q := 33) (i := 1) rfl rfl rfl rfl ?_
        refine R_getR (q := 36) rfl rfl rfl (lay_tk hd2) rfl (by omega) ?_
        refine R_iload_n (q := 37) (i := 2) rfl rfl rfl rfl ?_
        refine R_aald (q := 38) (r2 := o2 + 5) rfl rfl (lay_tp hd2) (by omega) (by omega) rfl ?_
        refine R_iconst (q := 39) rfl rfl ?_
        refine R_aload_n (q := 40) (i := 0) rfl rfl rfl rfl ?_
        refine R_getR (q := 43) rfl rfl rfl (lay_tk hd) rfl (by omega) ?_
        refine R_iload_n (q := 44) (i := 2) rfl rfl rfl rfl ?_
        refine R_aald (q := 45) (r2 := o + 5) rfl rfl (lay_tp hd) (by omega) (by omega) rfl ?_
        refine R_iconst (q := 46) rfl rfl ?_
        refine R_aload_n (q := 47) (i := 0) rfl rfl rfl rfl ?_
        refine R_getI (q := 50) (k1 := 0) rfl rfl rfl (lay_tk hd) rfl (by omega) rfl ?_
        refine R_copy (q := 53) rfl rfl rfl (lay_ta hd2 rfl) (lay_ta hd rfl) (by omega) (by omega) rfl rfl ?_
        have I4 := I3.cp 5 hne rfl
        have z4 := I4.1
        generalize cpM N3 (o2 + 5) 0 (o + 5) 0 (N3 o 0) = N4 at z4 I4 ⊢
        refine R_iinc (q := 56) rfl rfl rfl rfl ?_
        refine R_goto (q := 59) (tgt := 27) rfl rfl (by decide) ?_
        refine R_iload_n (q := 28) (i := 2) rfl rfl rfl rfl ?_
        refine R_iconst (q := 29) rfl rfl ?_
        refine R_icmp_ge (q := 32) (tgt := 59) rfl rfl (by decide) (by omega) (by omega) (fun h29 => ?_) (fun h29 => ?_)
        · refine R_aload_n (q := 60) (i := 1) rfl rfl rfl rfl ?_
          refine R_getR (q := 63) rfl rfl rfl (lay_tk hd2) rfl (by omega) ?_
          refine R_iconst (q := 64) rfl rfl ?_
          refine R_aload_n (q := 65) (i := 0) rfl rfl rfl rfl ?_
          refine R_getR (q := 68) rfl rfl rfl (lay_tk hd) rfl (by omega) ?_
          refine R_iconst (q := 69) rfl rfl ?_
          refine R_aload_n (q := 70) (i := 0) rfl rfl rfl rfl ?_
          refine R_getI (q := 73) (k1 := 0) rfl rfl rfl (lay_tk hd) rfl (by omega) rfl ?_
          refine R_copy (q := 76) rfl rfl rfl (lay_ta hd2 rfl) (lay_ta hd rfl) (by omega) (by omega) rfl rfl ?_
          have I5 := I4.cp 6 hne rfl
          have z5 := I5.1
          generalize cpM N4 (o2 + 6) 0 (o + 6) 0 (N4 o 0) = N5 at z5 I5 ⊢
          refine R_aload_n (q := 77) (i := 1) rfl rfl rfl rfl ?_
          refine R_getR (q := 80) rfl rfl rfl (lay_tk hd2) rfl (by omega) ?_
          refine R_iconst (q := 81) rfl rfl ?_
          refine R_aload_n (q := 82) (i := 0) rfl rfl rfl rfl ?_
          refine R_getR (q := 85) rfl rfl rfl (lay_tk hd) rfl (by omega) ?_
          refine R_iconst (q := 86) rfl rfl ?_
          refine R_aload_n (q := 87) (i := 0) rfl rfl rfl rfl ?_
          refine R_getI (q := 90) (k1 := 0) rfl rfl rfl (lay_tk hd) rfl (by omega) rfl ?_
          refine R_copy (q := 93) rfl rfl rfl (lay_ta hd2 rfl) (lay_ta hd rfl) (by omega) (by omega) rfl rfl ?_
          have I6 := I5.cp 7 hne rfl
          have z6 := I6.1
          generalize cpM N5 (o2 + 7) 0 (o + 7) 0 (N5 o 0) = N6 at z6 I6 ⊢
          refine R_aload_n (q := 94) (i := 1) rfl rfl rfl rfl ?_
          refine R_getR (q := 97) rfl rfl rfl (lay_tk hd2) rfl (by omega) ?_
          refine R_iconst (q := 98) rfl rfl ?_
          refine R_aload_n (q := 99) (i := 0) rfl rfl rfl rfl ?_
          refine R_getR (q := 102) rfl rfl rfl (lay_tk hd) rfl (by omega) ?_
          refine R_iconst (q := 103) rfl rfl ?_
          refine R_aload_n (q := 104) (i := 0) rfl rfl rfl rfl ?_
          refine R_getI (q := 107) (k1 := 0) rfl rfl rfl (lay_tk hd) rfl (by omega) rfl ?_
          refine R_copy (q := 110) rfl rfl rfl (lay_ta hd2 rfl) (lay_ta hd rfl) (by omega) (by omega) rfl rfl ?_
          have I7 := I6.cp 8 hne rfl
          have z7 := I7.1
          generalize cpM N6 (o2 + 8) 0 (o + 8) 0 (N6 o 0) = N7 at z7 I7 ⊢
          refine R_aload_n (q := 111) (i := 1) rfl rfl rfl rfl ?_
          refine R_getR (q := 114) rfl rfl rfl (lay_tk hd2) rfl (by omega) ?_
          refine R_iconst (q := 115) rfl rfl ?_
          refine R_aload_n (q := 116) (i := 0) rfl rfl rfl rfl ?_
          refine R_getR (q := 119) rfl rfl rfl (lay_tk hd) rfl (by omega) ?_
          refine R_iconst (q := 120) rfl rfl ?_
          refine R_aload_n (q := 121) (i := 0) rfl rfl rfl rfl ?_
          refine R_getI (q := 124) (k1 := 0) rfl rfl rfl (lay_tk hd) rfl (by omega) rfl ?_
          refine R_copy (q := 127) rfl rfl rfl (lay_ta hd2 rfl) (lay_ta hd rfl) (by omega) (by omega) rfl rfl ?_
          have I8 := I7.cp 9 hne rfl
          have z8 := I8.1
          generalize cpM N7 (o2 + 9) 0 (o + 9) 0 (N7 o 0) = N8 at z8 I8 ⊢
          refine R_aload_n (q := 128) (i := 1) rfl rfl rfl rfl ?_
          refine R_getR (q := 131) rfl rfl rfl (lay_tk hd2) rfl (by omega) ?_
          refine R_iconst (q := 132) rfl rfl ?_
          refine R_aload_n (q := 133) (i := 0) rfl rfl rfl rfl ?_
          refine R_getR (q := 136) rfl rfl rfl (lay_tk hd) rfl (by omega) ?_
          refine R_iconst (q := 137) rfl rfl ?_
          refine R_aload_n (q := 138) (i := 0) rfl rfl rfl rfl ?_
          refine R_getI (q := 141) (k1 := 0) rfl rfl rfl (lay_tk hd) rfl (by omega) rfl ?_
          refine R_copy (q := 144) rfl rfl rfl (lay_ta hd2 rfl) (lay_ta hd rfl) (by omega) (by omega) rfl rfl ?_
          refine R_vret rfl rfl ?_
          exact I8.cp 10 hne rfl
        · omega
set_option maxRecDepth 100000 in
theorem mt_X5_copyFrom : MtOK yX5_copyFrom cX5_copyFrom 3 none 0 C_X5_copyFrom := by
  refine mt_of sx_X5_copyFrom (by decide +kernel) (Or.inr (Or.inr ⟨rfl, rfl, rfl⟩)) (by decide +kernel) fdX5_ok kLX5_ok kIX5_ok sgX5_ok ntX5_ok
    (all_nil) ?_ ?_
  · rintro as M - ⟨o, o2, rfl, hp⟩
    exact Nat.le_of_ble_eq_true rfl
  · rintro L scr as M - ⟨o, o2, rfl, hp⟩
    exact Runs.mono (fun x M' h _ _ e => by cases e; exact h) (ok_X5_copyFrom L scr o o2 M hp)
/-- a trunk's row is written -/
def AdI (M N : Mem) (o : Nat) (n : Int) (S : List (Nat × Int)) : Prop := N o 0 = n ∧ (∀ p, p ∈ S → N (o + p.1) n = p.2) ∧ (∀ i, taB i = true → ∀ k, k ≠ n → N (o + i) k = M (o + i) k) ∧ ∀ r, (r < o ∨ o + 10 < r) → N r = M r
theorem AdI.st {M N : Mem} {o : Nat} {n : Int} {S : List (Nat × Int)} (i : Nat) (v : Int) (h : AdI M N o n S) (hi : taB i = true) (hn : S.all (fun p => p.1 != i) = true) : AdI M (upM N (o + i) (N o 0) v) o n ((i, v) :: S) := by
  obtain ⟨h1, h2, h3, h4⟩ := h
  have := taB_bd hi
  refine ⟨?_, fun p hp => ?_, fun j hj k hk => ?_, fun r hr => ?_⟩
  · rw [upM_r (by omega), h1]
  · rcases List.mem_cons.mp hp with rfl | hp
    · rw [h1]
      exact upM_s
    · have := List.all_eq_true.mp hn p hp
      rw [upM_r (by simp at this; omega)]
      exact h2 p hp
  · by_cases e : j = i
    · subst e
      rw [upM_k (by omega)]
      exact h3 j hj k hk
    · rw [upM_r (by omega)]
      exact h3 j hj k hk
  · rw [upM_r (by omega), h4 r hr]
abbrev C_X5_add : Ct := (4, false, fun as M => ∃ (o : Nat) (c : Int) (s : Nat) (ar : Int), as = [wR o, wI c, wR s, wI ar] ∧ (isTk o ∧ s = 10 ∧ 0 ≤ M o 0 ∧ M o 0 < 64), fun as M x M' => ∀ (o : Nat) (c : Int) (s : Nat) (ar : Int), as = [wR o, wI c, wR s, wI ar] → (∃ N, AdI M N o (M o 0) [(10, 0), (9, 0), (8, 0), (7, ar), (6, 0), (5, M 10 2), (4, M 10 1), (3, M 10 0), (1, c)] ∧ M' = upM N o 0 (M o 0 + 1)))
def sx_X5_add : Sx := (tb_X5_add, fdX5, kLX5, kIX5, sgX5, ntX5, [], 0)
set_option maxRecDepth 100000 in
set_option maxHeartbeats 1000000 in
theorem ok_X5_add (L : Nat) (scr : Int → Int) (o : Nat) (c : Int) (s : Nat) (ar : Int) (M : Mem) (hp : isTk o ∧ s = 10 ∧ 0 ≤ M o 0 ∧ M o 0 < 64) : Runs sx_X5_add L (xcF scr) (fun x M' => ∃ N, AdI M N o (M o 0) [(10, 0), (9, 0), (8, 0), (7, ar), (6, 0), (5, M 10 2), (4, M 10 1), (3, M 10 0), (1, c)] ∧ M' = upM N o 0 (M o 0 + 1)) 0 [wR o, wI c, wR s, wI ar, none] [] M := by
  obtain ⟨hd, rfl, g1, g2⟩ := hp
  have hb := hd.bd
  have I0 : AdI M M o (M o 0) [] := ⟨rfl, fun p h => absurd h List.not_mem_nil, fun i hi k hk => rfl, fun r hr => rfl⟩
  refine R_aload_n (q := 1) (i := 0) rfl rfl rfl rfl ?_
  refine R_getR (q := 4) rfl rfl rfl (lay_tk hd) rfl (by omega) ?_
  refine R_aload_n (q := 5) (i := 0) rfl rfl rfl rfl ?_
  refine R_getI (q := 8) (k1 := 0) rfl rfl rfl (lay_tk hd) rfl (by omega) rfl ?_
  refine R_iload_n (q := 9) (i := 1) rfl rfl rfl rfl ?_
  refine R_iast (q := 10) rfl rfl (lay_ta hd rfl) (by omega) (by omega) rfl ?_
  have I1 := I0.st 1 c rfl rfl
  have z1 := I1.1
  generalize upM M (o + 1) (M o 0) c = N1 at z1 I1 ⊢
  refine R_iconst (q := 11) rfl rfl ?_
  refine R_istore (q := 13) rfl rfl rfl ?_
  refine R_iload (q := 15) rfl rfl rfl ?_
  refine R_iconst (q := 16) rfl rfl ?_
  refine R_icmp_ge (q := 19) (tgt := 41) rfl rfl (by decide) (by omega) (by omega) (fun h16 => ?_) (fun h16 => ?_)
  · omega
  · refine R_aload_n (q := 20) (i := 0) rfl rfl rfl rfl ?_
    refine R_getR (q := 23) rfl rfl rfl (lay_tk hd) rfl (by omega) ?_
    refine R_iload (q := 25) rfl rfl rfl ?_
    refine R_aald (q := 26) (r2 := o + 3) rfl rfl (lay_tp hd) (by omega) (by omega) rfl ?_
    refine R_aload_n (q := 27) (i := 0) rfl rfl rfl rfl ?_
    refine R_getI (q := 30) (k1 := 0) rfl rfl rfl (lay_tk hd) rfl (by omega) rfl ?_
    refine R_aload_n (q := 31) (i := 2) rfl rfl rfl rfl ?_
    refine R_iload (q := 33) rfl rfl rfl ?_
    refine R_iald (q := 34) (v := M 10 0) rfl rfl rfl (by omega) (by omega) (congrFun (I1.2.2.2 10 (by omega)) _) ?_
    refine R_iast (q := 35) rfl rfl (lay_ta hd rfl) (by omega) (by omega) rfl ?_
    have I2 := I1.st 3 (M 10 0) rfl rfl
    have z2 := I2.1
    generalize upM N1 (o + 3) (N1 o 0) (M 10 0) = N2 at z2 I2 ⊢
    refine R_iinc (q := 38) rfl rfl rfl rfl ?_
    refine R_goto (q := 41) (tgt := 13) rfl rfl (by decide) ?_
    refine R_iload (q := 15) rfl rfl rfl ?_
    refine R_iconst (q := 16) rfl rfl ?_
    refine R_icmp_ge (q := 19) (tgt := 41) rfl rfl (by decide) (by omega) (by omega) (fun h16 => ?_) (fun h16 => ?_)
    · omega
    · refine R_aload_n (q := 20) (i := 0) rfl rfl rfl rfl ?_
      refine R_getR (q := 23) rfl rfl rfl (lay_tk hd) rfl (by omega) ?_
      refine R_iload (q := 25) rfl rfl rfl ?_
      refine R_aald (q := 26) (r2 := o + 4) rfl rfl (lay_tp hd) (by omega) (by omega) rfl ?_
      refine R_aload_n (q := 27) (i := 0) rfl rfl rfl rfl ?_
      refine R_getI (q := 30) (k1 := 0) rfl rfl rfl (lay_tk hd) rfl (by omega) rfl ?_
      refine R_aload_n (q := 31) (i := 2) rfl rfl rfl rfl ?_
      refine R_iload (q := 33) rfl rfl rfl ?_
      refine R_iald (q := 34) (v := M 10 1) rfl rfl rfl (by omega) (by omega) (congrFun (I2.2.2.2 10 (by omega)) _) ?_
      refine R_iast (q := 35) rfl rfl (lay_ta hd rfl) (by omega) (by omega) rfl ?_
      have I3 := I2.st 4 (M 10 1) rfl rfl
      have z3 := I3.1
      generalize upM N2 (o + 4) (N2 o 0) (M 10 1) = N3 at z3 I3 ⊢
      refine R_iinc (q := 38) rfl rfl rfl rfl ?_
      refine R_goto (q := 41) (tgt := 13) rfl rfl (by decide) ?_
      refine R_iload (q := 15) rfl rfl rfl ?_
      refine R_iconst (q := 16) rfl rfl ?_
      refine R_icmp_ge (q := 19) (tgt := 41) rfl rfl (by decide) (by omega) (by omega) (fun h16 => ?_) (fun h16 => ?_)
      · omega
      · refine R_aload_n (q := 20) (i := 0) rfl rfl rfl rfl ?_
        refine R_getR (q := 23) rfl rfl rfl (lay_tk hd) rfl (by omega) ?_
        refine R_iload (q := 25) rfl rfl rfl ?_
        refine R_aald (q := 26) (r2 := o + 5) rfl rfl (lay_tp hd) (by omega) (by omega) rfl ?_
        refine R_aload_n (q := 27) (i := 0) rfl rfl rfl rfl ?_
        refine R_getI (q := 30) (k1 := 0) rfl rfl rfl (lay_tk hd) rfl (by omega) rfl ?_
        refine R_aload_n (q := 31) (i := 2) rfl rfl rfl rfl ?_
        refine R_iload (q := 33) rfl rfl rfl ?_
        refine R_iald (q := 34) (v := M 10 2) rfl rfl rfl (by omega) (by omega) (congrFun (I3.2.2.2 10 (by omega)) _) ?_
        refine R_iast (q := 35) rfl rfl (lay_ta hd rfl) (by omega) (by omega) rfl ?_
        have I4 := I3.st 5 (M 10 2) rfl rfl
        have z4 := I4.1
        generalize upM N3 (o + 5) (N3 o 0) (M 10 2) = N4 at z4 I4 ⊢
        refine R_iinc (q := 38) rfl rfl rfl rfl ?_
        refine R_goto (q := 41) (tgt := 13) rfl rfl (by decide) ?_
        refine R_iload (q := 15) rfl rfl rfl ?_
        refine R_iconst (q := 16) rfl rfl ?_
        refine R_icmp_ge (q := 19) (tgt := 41) rfl rfl (by decide) (by omega) (by omega) (fun h16 => ?_) (fun h16 => ?_)
        · refine R_aload_n (q := 42) (i := 0) rfl rfl rfl rfl ?_
          refine R_getR (q := 45) rfl rfl rfl (lay_tk hd) rfl (by omega) ?_
          refine R_aload_n (q := 46) (i := 0) rfl rfl rfl rfl ?_
          refine R_getI (q := 49) (k1 := 0) rfl rfl rfl (lay_tk hd) rfl (by omega) rfl ?_
          refine R_iconst (q := 50) rfl rfl ?_
          refine R_iast (q := 51) rfl rfl (lay_ta hd rfl) (by omega) (by omega) rfl ?_
          have I5 := I4.st 6 0 rfl rfl
          have z5 := I5.1
          generalize upM N4 (o + 6) (N4 o 0) 0 = N5 at z5 I5 ⊢
          refine R_aload_n (q := 52) (i := 0) rfl rfl rfl rfl ?_
          refine R_getR (q := 55) rfl rfl rfl (lay_tk hd) rfl (by omega) ?_
          refine R_aload_n (q := 56) (i := 0) rfl rfl rfl rfl ?_
          refine R_getI (q := 59) (k1 := 0) rfl rfl rfl (lay_tk hd) rfl (by omega) rfl ?_
          refine R_iload_n (q := 60) (i := 3) rfl rfl rfl rfl ?_
          refine R_iast (q := 61) rfl rfl (lay_ta hd rfl) (by omega) (by omega) rfl ?_
          have I6 := I5.st 7 ar rfl rfl
          have z6 := I6.1
          generalize upM N5 (o + 7) (N5 o 0) ar = N6 at z6 I6 ⊢
          refine R_aload_n (q := 62) (i := 0) rfl rfl rfl rfl ?_
          refine R_getR (q := 65) rfl rfl rfl (lay_tk hd) rfl (by omega) ?_
          refine R_aload_n (q := 66) (i := 0) rfl rfl rfl rfl ?_
          refine R_getI (q := 69) (k1 := 0) rfl rfl rfl (lay_tk hd) rfl (by omega) rfl ?_
          refine R_iconst (q := 70) rfl rfl ?_
          refine R_iast (q := 71) rfl rfl (lay_ta hd rfl) (by omega) (by omega) rfl ?_
          have I7 := I6.st 8 0 rfl rfl
          have z7 := I7.1
          generalize upM N6 (o + 8) (N6 o 0) 0 = N7 at z7 I7 ⊢
          refine R_aload_n (q := 72) (i := 0) rfl rfl rfl rfl ?_
          refine R_getR (q := 75) rfl rfl rfl (lay_tk hd) rfl (by omega) ?_
          refine R_aload_n (q := 76) (i := 0) rfl rfl rfl rfl ?_
          refine R_getI (q := 79) (k1 := 0) rfl rfl rfl (lay_tk hd) rfl (by omega) rfl ?_
          refine R_iconst (q := 80) rfl rfl ?_
          refine R_iast (q := 81) rfl rfl (lay_ta hd rfl) (by omega) (by omega) rfl ?_
          have I8 := I7.st 9 0 rfl rfl
          have z8 := I8.1
          generalize upM N7 (o + 9) (N7 o 0) 0 = N8 at z8 I8 ⊢
          refine R_aload_n (q := 82) (i := 0) rfl rfl rfl rfl ?_
          refine R_getR (q := 85) rfl rfl rfl (lay_tk hd) rfl (by omega) ?_
          refine R_aload_n (q := 86) (i := 0) rfl rfl rfl rfl ?_
          refine R_getI (q := 89) (k1 := 0) rfl rfl rfl (lay_tk hd) rfl (by omega) rfl ?_
          refine R_iconst (q := 90) rfl rfl ?_
          refine R_iast (q := 91) rfl rfl (lay_ta hd rfl) (by omega) (by omega) rfl ?_
          have I9 := I8.st 10 0 rfl rfl
          have z9 := I9.1
          generalize upM N8 (o + 10) (N8 o 0) 0 = N9 at z9 I9 ⊢
          refine R_aload_n (q := 92) (i := 0) rfl rfl rfl rfl ?_
          refine R_dup (q := 93) rfl rfl rfl ?_
          refine R_getI (q := 96) (k1 := 0) rfl rfl rfl (lay_tk hd) rfl (by omega) rfl ?_
          refine R_iconst (q := 97) rfl rfl ?_
          refine R_iadd (q := 98) rfl rfl ?_
          refine R_putI (q := 101) (k1 := 0) rfl rfl rfl (lay_tk hd) rfl (by omega) rfl rfl rfl rfl ?_
          refine R_vret rfl rfl ?_
          exact ⟨_, I9, by rw [z9]⟩
        · omega
set_option maxRecDepth 100000 in
theorem mt_X5_add : MtOK yX5_add cX5_add 5 none 0 C_X5_add := by
  refine mt_of sx_X5_add (by decide +kernel) (Or.inr (Or.inr ⟨rfl, rfl, rfl⟩)) (by decide +kernel) fdX5_ok kLX5_ok kIX5_ok sgX5_ok ntX5_ok
    (all_nil) ?_ ?_
  · rintro as M - ⟨o, c, s, ar, rfl, hp⟩
    exact Nat.le_of_ble_eq_true rfl
  · rintro L scr as M - ⟨o, c, s, ar, rfl, hp⟩
    exact Runs.mono (fun x M' h _ _ _ _ e => by cases e; exact h) (ok_X5_add L scr o c s ar M hp)
