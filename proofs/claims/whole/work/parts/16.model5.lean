def plc (f : Int → Int) (d t : Int) : Nat → Int
  | 0 => -6
  | n + 1 => if f (38 + 16 * d + (n : Int)) = t then (n : Int) else plc f d t n
def plD (f : Int → Int) (d t : Int) : Int := plc f d t (f (27 + 4 * d)).toNat
def dko (f : Int → Int) (t : Int) : Nat → Int
  | 0 => -6
  | n + 1 => if plD f (n : Int) t = -6 then dko f t n else (n : Int)
theorem plc_out {f : Int → Int} {d t : Int} : ∀ n : Nat, (∀ p : Int, 0 ≤ p → p < n → f (38 + 16 * d + p) ≠ t) → plc f d t n = -6
  | 0, _ => rfl
  | n + 1, h => (if_neg (h n (by omega) (by omega))).trans (plc_out n (fun p a b => h p a (by omega)))
theorem plc_in {f : Int → Int} {d t p : Int} : ∀ n : Nat, 0 ≤ p → p < n → f (38 + 16 * d + p) = t → (∀ p' : Int, 0 ≤ p' → p' < n → f (38 + 16 * d + p') = t → p' = p) → plc f d t n = p
  | 0, _, h, _, _ => by omega
  | n + 1, h0, h1, h2, h3 => by
    show (if _ then _ else _) = _
    by_cases e : p = n
    · subst e
      rw [if_pos h2]
    · rw [if_neg (fun z => e (h3 n (by omega) (by omega) z).symm)]
      exact plc_in n h0 (by omega) h2 (fun p' a b c => h3 p' a (by omega) c)
theorem plc_bd {f : Int → Int} {d t : Int} : ∀ n : Nat, plc f d t n = -6 ∨ (0 ≤ plc f d t n ∧ plc f d t n < n)
  | 0 => Or.inl rfl
  | n + 1 => by
    unfold plc
    by_cases e : f (38 + 16 * d + (n : Int)) = t
    · rw [if_pos e]
      exact Or.inr (by omega)
    · rw [if_neg e]
      rcases plc_bd (f := f) (d := d) (t := t) n with h | h
      · exact Or.inl h
      · exact Or.inr (by omega)
theorem dko_bd {f : Int → Int} {t : Int} : ∀ n : Nat, dko f t n = -6 ∨ (0 ≤ dko f t n ∧ dko f t n < n)
  | 0 => Or.inl rfl
  | n + 1 => by
    unfold dko
    by_cases e : plD f (n : Int) t = -6
    · rw [if_pos e]
      rcases dko_bd (f := f) (t := t) n with h | h
      · exact Or.inl h
      · exact Or.inr (by omega)
    · rw [if_neg e]
      exact Or.inr (by omega)
/-- where a trunk stands that is in a queue -/
theorem Inv.at {f : Int → Int} (I : Inv f) {d p t : Int} (q : Qv f d p) (h : f (38 + 16 * d + p) = t) : (∀ e, 0 ≤ e → e < 3 → plD f e t = if e = d then p else -6) ∧ dko f t 3 = d := by
  have iE := I.2.2.2.2.2.1
  have key : ∀ e, 0 ≤ e → e < 3 → plD f e t = if e = d then p else -6 := by
    intro e e0 e1
    have c := (I.le e0 e1).1
    by_cases z : e = d
    · subst z
      rw [if_pos rfl]
      exact plc_in _ q.2.2.1 (by have := q.2.2.2; omega) h (fun p' a b c2 => (iE e p' e p ⟨e0, e1, a, by omega⟩ q (c2.trans h.symm)).2)
    · rw [if_neg z]
      exact plc_out _ (fun p' a b c2 => z (iE e p' d p ⟨e0, e1, a, by omega⟩ q (c2.trans h.symm)).1)
  have q2 := q.2.2.1
  refine ⟨key, ?_⟩
  have k0 := key 0 (by omega) (by omega)
  have k1 := key 1 (by omega) (by omega)
  have k2 := key 2 (by omega) (by omega)
  show (if plD f 2 t = -6 then (if plD f 1 t = -6 then (if plD f 0 t = -6 then -6 else 0) else 1) else 2) = d
  rw [k0, k1, k2]
  have : d = 0 ∨ d = 1 ∨ d = 2 := by have := q.1; have := q.2.1; omega
  rcases this with rfl | rfl | rfl
  · rw [if_neg (show ¬ (2 : Int) = 0 by omega), if_pos rfl, if_neg (show ¬ (1 : Int) = 0 by omega), if_pos rfl, if_pos rfl, if_neg (by omega)]
  · rw [if_neg (show ¬ (2 : Int) = 1 by omega), if_pos rfl, if_pos rfl, if_neg (by omega)]
  · rw [if_pos rfl, if_neg (by omega)]
theorem Inv.out {f : Int → Int} (I : Inv f) {t : Int} (h : ∀ d p, Qv f d p → f (38 + 16 * d + p) ≠ t) : (∀ e, 0 ≤ e → e < 3 → plD f e t = -6) ∧ dko f t 3 = -6 := by
  have key : ∀ e, 0 ≤ e → e < 3 → plD f e t = -6 := by
    intro e e0 e1
    have c := (I.le e0 e1).1
    exact plc_out _ (fun p' a b => h e p' ⟨e0, e1, a, by omega⟩)
  refine ⟨key, ?_⟩
  have k0 := key 0 (by omega) (by omega)
  have k1 := key 1 (by omega) (by omega)
  have k2 := key 2 (by omega) (by omega)
  show (if plD f 2 t = -6 then (if plD f 1 t = -6 then (if plD f 0 t = -6 then -6 else 0) else 1) else 2) = -6
  rw [k0, k1, k2]
  rfl
abbrev C_X7_placeIn : Ct := (3, true, fun as M => ∃ (o : Nat) (d : Int) (t : Int), as = [wR o, wI d, wI t] ∧ (o = 11 ∧ (0 ≤ d ∧ d < 3) ∧ inr t ∧ Inv (M 12)), fun as M x M' => ∀ (o : Nat) (d : Int) (t : Int), as = [wR o, wI d, wI t] → ((plD (M 12) d t) = x ∧ (M) = M'))
def sx_X7_placeIn : Sx := (tb_X7_placeIn, fdX7, kLX7, kIX7, sgX7, ntX7, [(20, (9, C_X7_deskAt)), (56, (9, C_X7_queueAt))], 1)
set_option maxRecDepth 100000 in
set_option maxHeartbeats 1000000 in
theorem ok_X7_placeIn (L : Nat) (scr : Int → Int) (o : Nat) (d : Int) (t : Int) (M : Mem) (hp : o = 11 ∧ (0 ≤ d ∧ d < 3) ∧ inr t ∧ Inv (M 12)) : Runs sx_X7_placeIn L (xcF scr) (fun x M' => (plD (M 12) d t) = x ∧ (M) = M') 0 [wR o, wI d, wI t, none, none] [] M := by
  obtain ⟨rfl, h1, h2, I⟩ := hp
  have c := I.le h1.1 h1.2
  have i7 := I.2.1
  have L1 : ∀ (n : Nat) (k : Nat), k + n = (M 12 (27 + 4 * d)).toNat → Runs sx_X7_placeIn L (xcF scr) (fun x M' => (plD (M 12) d t) = x ∧ M = M') 6 [wR 11, wI d, wI t, wI (plc (M 12) d t k), wI (k : Int)] [] M := by
    intro n
    induction n with
    | zero =>
      intro k hk
      refine R_iload (q := 8) rfl rfl rfl ?_
      refine R_aload_n (q := 9) (i := 0) rfl rfl rfl rfl ?_
      refine R_getR (q := 12) rfl rfl rfl rfl rfl (by omega) ?_
      refine R_iconst (q := 13) rfl rfl ?_
      refine R_iload_n (q := 14) (i := 1) rfl rfl rfl rfl ?_
      refine R_cS2I (q := 17) (ci := 9) (C := C_X7_deskAt) rfl rfl rfl rfl rfl ⟨_, _, rfl, (by first | trivial | assumption | omega)⟩ rfl rfl (fun x M' hc => ?_)
      replace hc := hc _ _ rfl
      try simp only [sh_mr, mr_mr] at hc
      obtain ⟨rfl, rfl⟩ := hc
      refine R_iconst (q := 18) rfl rfl ?_
      refine R_iadd (q := 19) rfl rfl ?_
      refine R_iald (q := 20) (v := M 12 (27 + 4 * d)) rfl rfl rfl (by omega) (by omega) (congrArg (M 12) (by omega)) ?_
      refine R_icmp_ge (q := 23) (tgt := 52) rfl rfl (by decide) (by omega) (by omega) (fun h20 => ?_) (fun h20 => ?_)
      · refine R_iload_n (q := 53) (i := 3) rfl rfl rfl rfl ?_
        refine R_ret rfl (Or.inl rfl) ?_
        unfold plD
        rw [← hk]
        exact ⟨rfl, rfl⟩
      · omega
    | succ n ih =>
      intro k hk
      have q := I.2.2.2.2.1 d k ⟨h1.1, h1.2, by omega, by omega⟩
      refine R_iload (q := 8) rfl rfl rfl ?_
      refine R_aload_n (q := 9) (i := 0) rfl rfl rfl rfl ?_
      refine R_getR (q := 12) rfl rfl rfl rfl rfl (by omega) ?_
      refine R_iconst (q := 13) rfl rfl ?_
      refine R_iload_n (q := 14) (i := 1) rfl rfl rfl rfl ?_
      refine R_cS2I (q := 17) (ci := 9) (C := C_X7_deskAt) rfl rfl rfl rfl rfl ⟨_, _, rfl, (by first | trivial | assumption | omega)⟩ rfl rfl (fun x M' hc => ?_)
      replace hc := hc _ _ rfl
      try simp only [sh_mr, mr_mr] at hc
      obtain ⟨rfl, rfl⟩ := hc
      refine R_iconst (q := 18) rfl rfl ?_
      refine R_iadd (q := 19) rfl rfl ?_
      refine R_iald (q := 20) (v := M 12 (27 + 4 * d)) rfl rfl rfl (by omega) (by omega) (congrArg (M 12) (by omega)) ?_
      refine R_icmp_ge (q := 23) (tgt := 52) rfl rfl (by decide) (by omega) (by omega) (fun h20 => ?_) (fun h20 => ?_)
      · omega
      · refine R_aload_n (q := 24) (i := 0) rfl rfl rfl rfl ?_
        refine R_getR (q := 27) rfl rfl rfl rfl rfl (by omega) ?_
        refine R_iconst (q := 28) rfl rfl ?_
        refine R_iload_n (q := 29) (i := 1) rfl rfl rfl rfl ?_
        refine R_iload (q := 31) rfl rfl rfl ?_
        refine R_cS3I (q := 34) (ci := 9) (C := C_X7_queueAt) rfl rfl rfl rfl rfl ⟨_, _, _, rfl, (by first | trivial | assumption | omega)⟩ rfl rfl (fun x M' hc => ?_)
        replace hc := hc _ _ _ rfl
        try simp only [sh_mr, mr_mr] at hc
        obtain ⟨rfl, rfl⟩ := hc
        refine R_iald (q := 35) (v := M 12 (38 + 16 * d + (k : Int))) rfl rfl rfl (by omega) (by omega) (congrArg (M 12) (by omega)) ?_
        refine R_iload_n (q := 36) (i := 2) rfl rfl rfl rfl ?_
        refine R_icmp_ne (q := 39) (tgt := 44) rfl rfl (by decide) (by omega) (by omega) (fun h36 => ?_) (fun h36 => ?_)
        · have e : plc (M 12) d t k = plc (M 12) d t (k + 1) := (if_neg h36).symm
          refine R_iload_n (q := 45) (i := 3) rfl rfl rfl rfl ?_
          refine R_istore_n (q := 46) (i := 3) rfl rfl rfl rfl ?_
          refine R_iinc (q := 49) rfl rfl rfl rfl ?_
          refine R_goto (q := 52) (tgt := 6) rfl rfl (by decide) ?_
          first | (rw [e]; exact ih (k + 1) (by omega)) | exact cast (by rw [← e]; rfl) (ih (k + 1) (by omega))
        · have e : (k : Int) = plc (M 12) d t (k + 1) := (if_pos (by omega)).symm
          refine R_iload (q := 41) rfl rfl rfl ?_
          refine R_goto (q := 44) (tgt := 45) rfl rfl (by decide) ?_
          refine R_istore_n (q := 46) (i := 3) rfl rfl rfl rfl ?_
          refine R_iinc (q := 49) rfl rfl rfl rfl ?_
          refine R_goto (q := 52) (tgt := 6) rfl rfl (by decide) ?_
          first | (rw [e]; exact ih (k + 1) (by omega)) | exact cast (by rw [← e]; rfl) (ih (k + 1) (by omega))
  refine R_bipush (q := 2) rfl rfl (by decide) ?_
  refine R_istore_n (q := 3) (i := 3) rfl rfl rfl rfl ?_
  refine R_iconst (q := 4) rfl rfl ?_
  refine R_istore (q := 6) rfl rfl rfl ?_
  exact L1 (M 12 (27 + 4 * d)).toNat 0 (by omega)
set_option maxRecDepth 100000 in
theorem mt_X7_placeIn : MtOK yX7_placeIn cX7_placeIn 5 (some .int) 1 C_X7_placeIn := by
  refine mt_of sx_X7_placeIn (by decide +kernel) (Or.inl ⟨rfl, rfl, rfl⟩) (by decide +kernel) fdX7_ok kLX7_ok kIX7_ok sgX7_ok ntX7_ok
    (all_cons (clokS mt_X7_deskAt (GT_at 555 (by decide +kernel) (by decide +kernel)) (GT_at 44 (by decide +kernel) (by decide +kernel)) (GT_at 557 (by decide +kernel) (by decide +kernel)) (by decide +kernel) (by decide) (GT_at 556 (by decide +kernel) (by decide +kernel))) (all_cons (clokS mt_X7_queueAt (GT_at 666 (by decide +kernel) (by decide +kernel)) (GT_at 44 (by decide +kernel) (by decide +kernel)) (GT_at 668 (by decide +kernel) (by decide +kernel)) (by decide +kernel) (by decide) (GT_at 667 (by decide +kernel) (by decide +kernel))) (all_nil))) ?_ ?_
  · rintro as M - ⟨o, d, t, rfl, hp⟩
    exact Nat.le_of_ble_eq_true rfl
  · rintro L scr as M - ⟨o, d, t, rfl, hp⟩
    exact Runs.mono (fun x M' h _ _ _ e => by cases e; exact h) (ok_X7_placeIn L scr o d t M hp)
abbrev C_X7_deskOf : Ct := (2, true, fun as M => ∃ (o : Nat) (t : Int), as = [wR o, wI t] ∧ (o = 11 ∧ inr t ∧ Inv (M 12)), fun as M x M' => ∀ (o : Nat) (t : Int), as = [wR o, wI t] → ((dko (M 12) t 3) = x ∧ (M) = M'))
def sx_X7_deskOf : Sx := (tb_X7_deskOf, fdX7, kLX7, kIX7, sgX7, ntX7, [(102, (7, C_X7_placeIn))], 1)
set_option maxRecDepth 100000 in
set_option maxHeartbeats 1000000 in
theorem ok_X7_deskOf (L : Nat) (scr : Int → Int) (o : Nat) (t : Int) (M : Mem) (hp : o = 11 ∧ inr t ∧ Inv (M 12)) : Runs sx_X7_deskOf L (xcF scr) (fun x M' => (dko (M 12) t 3) = x ∧ (M) = M') 0 [wR o, wI t, none, none] [] M := by
  obtain ⟨rfl, h2, I⟩ := hp
  have b2 := fun d a b => (I.le (d := d) a b)
  have L1 : ∀ (n k : Nat), k + n = 3 → Runs sx_X7_deskOf L (xcF scr) (fun x M' => (dko (M 12) t 3) = x ∧ M = M') 5 [wR 11, wI t, wI (dko (M 12) t k), wI (k : Int)] [] M := by
    intro n
    induction n with
    | zero =>
      intro k hk
      have hk : k = 3 := by omega
      subst hk
      refine R_iload_n (q := 6) (i := 3) rfl rfl rfl rfl ?_
      refine R_iconst (q := 7) rfl rfl ?_
      refine R_icmp_ge (q := 10) (tgt := 33) rfl rfl (by decide) (by omega) (by omega) (fun h7 => ?_) (fun h7 => ?_)
      · refine R_iload_n (q := 34) (i := 2) rfl rfl rfl rfl ?_
        refine R_ret rfl (Or.inl rfl) ?_
        exact ⟨rfl, rfl⟩
      · omega
    | succ n ih =>
      intro k hk
      have c := b2 (k : Int) (by omega) (by omega)
      have pb := plc_bd (f := M 12) (d := (k : Int)) (t := t) (M 12 (27 + 4 * (k : Int))).toNat
      have pe : plD (M 12) (k : Int) t = plc (M 12) (k : Int) t (M 12 (27 + 4 * (k : Int))).toNat := rfl
      rw [← pe] at pb
      refine R_iload_n (q := 6) (i := 3) rfl rfl rfl rfl ?_
      refine R_iconst (q := 7) rfl rfl ?_
      refine R_icmp_ge (q := 10) (tgt := 33) rfl rfl (by decide) (by omega) (by omega) (fun h7 => ?_) (fun h7 => ?_)
      · omega
      · refine R_aload_n (q := 11) (i := 0) rfl rfl rfl rfl ?_
        refine R_iload_n (q := 12) (i := 3) rfl rfl rfl rfl ?_
        refine R_iload_n (q := 13) (i := 1) rfl rfl rfl rfl ?_
        refine R_cV2I (q := 16) (ci := 7) (C := C_X7_placeIn) rfl rfl rfl rfl rfl ⟨_, _, _, rfl, ⟨rfl, by omega, h2, I⟩⟩ rfl rfl (by omega) (fun x M' hc => ?_)
        replace hc := hc _ _ _ rfl
        try simp only [sh_mr, mr_mr] at hc
        obtain ⟨rfl, rfl⟩ := hc
        refine R_bipush (q := 18) rfl rfl (by decide) ?_
        refine R_icmp_eq (q := 21) (tgt := 25) rfl rfl (by decide) (by omega) (by omega) (fun h18 => ?_) (fun h18 => ?_)
        · have e : dko (M 12) t k = dko (M 12) t (k + 1) := (if_pos h18).symm
          refine R_iload_n (q := 26) (i := 2) rfl rfl rfl rfl ?_
          refine R_istore_n (q := 27) (i := 2) rfl rfl rfl rfl ?_
          refine R_iinc (q := 30) rfl rfl rfl rfl ?_
          refine R_goto (q := 33) (tgt := 5) rfl rfl (by decide) ?_
          have z := ih (k + 1) (by omega)
          rw [← e] at z
          exact z
        · have e : (k : Int) = dko (M 12) t (k + 1) := (if_neg h18).symm
          refine R_iload_n (q := 22) (i := 3) rfl rfl rfl rfl ?_
          refine R_goto (q := 25) (tgt := 26) rfl rfl (by decide) ?_
          refine R_istore_n (q := 27) (i := 2) rfl rfl rfl rfl ?_
          refine R_iinc (q := 30) rfl rfl rfl rfl ?_
          refine R_goto (q := 33) (tgt := 5) rfl rfl (by decide) ?_
          have z := ih (k + 1) (by omega)
          rw [← e] at z
          exact z
  refine R_bipush (q := 2) rfl rfl (by decide) ?_
  refine R_istore_n (q := 3) (i := 2) rfl rfl rfl rfl ?_
  refine R_iconst (q := 4) rfl rfl ?_
  refine R_istore_n (q := 5) (i := 3) rfl rfl rfl rfl ?_
  exact L1 3 0 rfl
set_option maxRecDepth 100000 in
theorem mt_X7_deskOf : MtOK yX7_deskOf cX7_deskOf 4 (some .int) 2 C_X7_deskOf := by
  refine mt_of sx_X7_deskOf (by decide +kernel) (Or.inl ⟨rfl, rfl, rfl⟩) (by decide +kernel) fdX7_ok kLX7_ok kIX7_ok sgX7_ok ntX7_ok
    (all_cons (clokV mt_X7_placeIn rfl (GT_at 704 (by decide +kernel) (by decide +kernel)) (GT_at 44 (by decide +kernel) (by decide +kernel)) (GT_at 707 (by decide +kernel) (by decide +kernel)) (by decide +kernel) (by decide) (GT_at 706 (by decide +kernel) (by decide +kernel)) (GT_at 24 (by decide +kernel) (by decide +kernel)) rfl rfl) (all_nil)) ?_ ?_
  · rintro as M - ⟨o, t, rfl, hp⟩
    exact Nat.le_of_ble_eq_true rfl
  · rintro L scr as M - ⟨o, t, rfl, hp⟩
    exact Runs.mono (fun x M' h _ _ e => by cases e; exact h) (ok_X7_deskOf L scr o t M hp)
def sbP (f : Int → Int) (t : Int) : Nat → Int
  | 0 => 0
  | n + 1 => sbP f t n + (if 0 < df f t (n : Int) - f 4 then df f t (n : Int) - f 4 else 0)
abbrev C_X7_beyondTare : Ct := (2, true, fun as M => ∃ (o : Nat) (t : Int), as = [wR o, wI t] ∧ (o = 11 ∧ (0 ≤ t ∧ t < 64) ∧ Bd (M 12)), fun as M x M' => ∀ (o : Nat) (t : Int), as = [wR o, wI t] → ((sbP (M 12) t 6) = x ∧ (M) = M'))
def sx_X7_beyondTare : Sx := (tb_X7_beyondTare, fdX7, kLX7, kIX7, sgX7, ntX7, [(45, (7, C_X7_differs))], 1)
set_option maxRecDepth 100000 in
set_option maxHeartbeats 1000000 in
theorem ok_X7_beyondTare (L : Nat) (scr : Int → Int) (o : Nat) (t : Int) (M : Mem) (hp : o = 11 ∧ (0 ≤ t ∧ t < 64) ∧ Bd (M 12)) : Runs sx_X7_beyondTare L (xcF scr) (fun x M' => (sbP (M 12) t 6) = x ∧ (M) = M') 0 [wR o, wI t, none, none, none] [] M := by
  obtain ⟨rfl, h2, h3⟩ := hp
  obtain ⟨c0, c1, c2, -⟩ := h3.2.2.2 t h2.1 h2.2
  have c4 := h3.1.2.2.2.2.1
  have L1 : ∀ (n i : Nat) (x4 : PV), i + n = 6 → Runs sx_X7_beyondTare L (xcF scr) (fun x M' => (sbP (M 12) t 6) = x ∧ M = M') 4 [wR 11, wI t, wI (sbP (M 12) t i), wI (i : Int), x4] [] M := by
    intro n
    induction n with
    | zero =>
      intro i x4 hi
      have hi : i = 6 := by omega
      subst hi
      refine R_iload_n (q := 5) (i := 3) rfl rfl rfl rfl ?_
      refine R_bipush (q := 7) rfl rfl (by decide) ?_
      refine R_icmp_ge (q := 10) (tgt := 46) rfl rfl (by decide) (by omega) (by omega) (fun h7 => ?_) (fun h7 => ?_)
      · refine R_iload_n (q := 47) (i := 2) rfl rfl rfl rfl ?_
        refine R_ret rfl (Or.inl rfl) ?_
        exact ⟨rfl, rfl⟩
      · omega
    | succ n ih =>
      intro i x4 hi
      have hdf := df_bd (f := M 12) (t := t) (k := (i : Int)) c1.1 c2.1
      refine R_iload_n (q := 5) (i := 3) rfl rfl rfl rfl ?_
      refine R_bipush (q := 7) rfl rfl (by decide) ?_
      refine R_icmp_ge (q := 10) (tgt := 46) rfl rfl (by decide) (by omega) (by omega) (fun h7 => ?_) (fun h7 => ?_)
      · omega
      · refine R_aload_n (q := 11) (i := 0) rfl rfl rfl rfl ?_
        refine R_iconst (q := 12) rfl rfl ?_
        refine R_iload_n (q := 13) (i := 1) rfl rfl rfl rfl ?_
        refine R_iload_n (q := 14) (i := 3) rfl rfl rfl rfl ?_
        refine R_cV3I (q := 17) (ci := 7) (C := C_X7_differs) rfl rfl rfl rfl rfl ⟨_, _, _, _, rfl, ⟨rfl, by omega, h2, by omega, by rw [sh_0]; exact c1, by rw [sh_0]; exact c2⟩⟩ rfl rfl (by omega) (fun x M' hc => ?_)
        replace hc := hc _ _ _ _ rfl
        rw [sh_0] at hc
        obtain ⟨rfl, rfl⟩ := hc
        refine R_aload_n (q := 18) (i := 0) rfl rfl rfl rfl ?_
        refine R_getR (q := 21) rfl rfl rfl rfl rfl (by omega) ?_
        refine R_iconst (q := 22) rfl rfl ?_
        refine R_iald (q := 23) rfl rfl rfl (by omega) (by omega) rfl ?_
        refine R_isub (q := 24) rfl rfl ?_
        refine R_istore (q := 26) rfl rfl rfl ?_
        refine R_iload_n (q := 27) (i := 2) rfl rfl rfl rfl ?_
        refine R_iload (q := 29) rfl rfl rfl ?_
        refine R_if_le (q := 32) (tgt := 37) rfl rfl (by decide) (by omega) (fun h29 => ?_) (fun h29 => ?_)
        · have e : sbP (M 12) t i + 0 = sbP (M 12) t (i + 1) := by
            show _ = sbP (M 12) t i + (if _ then _ else _)
            rw [if_neg (by omega)]
          refine R_iconst (q := 38) rfl rfl ?_
          refine R_iadd (q := 39) rfl rfl ?_
          refine R_istore_n (q := 40) (i := 2) rfl rfl rfl rfl ?_
          refine R_iinc (q := 43) rfl rfl rfl rfl ?_
          refine R_goto (q := 46) (tgt := 4) rfl rfl (by decide) ?_
          rw [e]
          exact ih (i + 1) _ (by omega)
        · have e : sbP (M 12) t i + (df (M 12) t (i : Int) - M 12 4) = sbP (M 12) t (i + 1) := by
            show _ = sbP (M 12) t i + (if _ then _ else _)
            rw [if_pos (by omega)]
          refine R_iload (q := 34) rfl rfl rfl ?_
          refine R_goto (q := 37) (tgt := 38) rfl rfl (by decide) ?_
          refine R_iadd (q := 39) rfl rfl ?_
          refine R_istore_n (q := 40) (i := 2) rfl rfl rfl rfl ?_
          refine R_iinc (q := 43) rfl rfl rfl rfl ?_
          refine R_goto (q := 46) (tgt := 4) rfl rfl (by decide) ?_
          rw [e]
          exact ih (i + 1) _ (by omega)
  refine R_iconst (q := 1) rfl rfl ?_
  refine R_istore_n (q := 2) (i := 2) rfl rfl rfl rfl ?_
  refine R_iconst (q := 3) rfl rfl ?_
  refine R_istore_n (q := 4) (i := 3) rfl rfl rfl rfl ?_
  exact L1 6 0 _ rfl
set_option maxRecDepth 100000 in
theorem mt_X7_beyondTare : MtOK yX7_beyondTare cX7_beyondTare 5 (some .int) 3 C_X7_beyondTare := by
  refine mt_of sx_X7_beyondTare (by decide +kernel) (Or.inl ⟨rfl, rfl, rfl⟩) (by decide +kernel) fdX7_ok kLX7_ok kIX7_ok sgX7_ok ntX7_ok
    (all_cons (clokV mt_X7_differs rfl (GT_at 692 (by decide +kernel) (by decide +kernel)) (GT_at 44 (by decide +kernel) (by decide +kernel)) (GT_at 695 (by decide +kernel) (by decide +kernel)) (by decide +kernel) (by decide) (GT_at 694 (by decide +kernel) (by decide +kernel)) (GT_at 22 (by decide +kernel) (by decide +kernel)) rfl rfl) (all_nil)) ?_ ?_
  · rintro as M - ⟨o, t, rfl, hp⟩
    exact Nat.le_of_ble_eq_true rfl
  · rintro L scr as M - ⟨o, t, rfl, hp⟩
    exact Runs.mono (fun x M' h _ _ e => by cases e; exact h) (ok_X7_beyondTare L scr o t M hp)
theorem sbP_z {f : Int → Int} {t : Int} (h : 0 ≤ f 4) : sbP f t 6 = 0 ↔ msk f t = 0 := by
  have k : ∀ k, (0 < df f t k - f 4 ∧ ds f t k = 1) ∨ (¬ 0 < df f t k - f 4 ∧ ds f t k = 0) := by
    intro k
    unfold ds
    by_cases e : f 4 < df f t k
    · exact Or.inl ⟨by omega, bt_t e⟩
    · exact Or.inr ⟨by omega, bt_f e⟩
  show 0 + (if 0 < df f t 0 - f 4 then df f t 0 - f 4 else 0) + (if 0 < df f t 1 - f 4 then df f t 1 - f 4 else 0) + (if 0 < df f t 2 - f 4 then df f t 2 - f 4 else 0) + (if 0 < df f t 3 - f 4 then df f t 3 - f 4 else 0) + (if 0 < df f t 4 - f 4 then df f t 4 - f 4 else 0) + (if 0 < df f t 5 - f 4 then df f t 5 - f 4 else 0) = 0 ↔ _
  unfold msk
  have k0 := k 0
  have k1 := k 1
  have k2 := k 2
  have k3 := k 3
  have k4 := k 4
  have k5 := k 5
  omega
theorem sbP_bd {f : Int → Int} {t : Int} (h : 0 ≤ f 4) (c1 : 0 ≤ f (87 + 9 * t)) (c2 : 0 ≤ f (88 + 9 * t)) : 0 ≤ sbP f t 6 ∧ sbP f t 6 ≤ 54 := by
  have b := fun k => df_bd (f := f) (t := t) (k := k) c1 c2
  have k0 := b 0
  have k1 := b 1
  have k2 := b 2
  have k3 := b 3
  have k4 := b 4
  have k5 := b 5
  show 0 ≤ 0 + (if 0 < df f t 0 - f 4 then df f t 0 - f 4 else 0) + (if 0 < df f t 1 - f 4 then df f t 1 - f 4 else 0) + (if 0 < df f t 2 - f 4 then df f t 2 - f 4 else 0) + (if 0 < df f t 3 - f 4 then df f t 3 - f 4 else 0) + (if 0 < df f t 4 - f 4 then df f t 4 - f 4 else 0) + (if 0 < df f t 5 - f 4 then df f t 5 - f 4 else 0) ∧ 0 + (if 0 < df f t 0 - f 4 then df f t 0 - f 4 else 0) + (if 0 < df f t 1 - f 4 then df f t 1 - f 4 else 0) + (if 0 < df f t 2 - f 4 then df f t 2 - f 4 else 0) + (if 0 < df f t 3 - f 4 then df f t 3 - f 4 else 0) + (if 0 < df f t 4 - f 4 then df f t 4 - f 4 else 0) + (if 0 < df f t 5 - f 4 then df f t 5 - f 4 else 0) ≤ 54
  omega
def hasT (f : Int → Int) (t : Int) : Prop := 0 ≤ t ∧ t < f 7
abbrev C_X7_alike : Ct := (3, true, fun as M => ∃ (o : Nat) (t : Int) (w : Int), as = [wR o, wI t, wI w] ∧ (o = 11 ∧ inr t ∧ inr w ∧ Inv (M 12)), fun as M x M' => ∀ (o : Nat) (t : Int) (w : Int), as = [wR o, wI t, wI w] → (M = M' ∧ (¬ hasT (M 12) t ∧ x = -1 ∨ hasT (M 12) t ∧ (w = 0 ∨ w = 1) ∧ x = bt_ (msk (M 12) t = 0) 1 ∨ hasT (M 12) t ∧ ¬ (w = 0 ∨ w = 1) ∧ x = -2)))
def sx_X7_alike : Sx := (tb_X7_alike, fdX7, kLX7, kIX7, sgX7, ntX7, [(98, (7, C_X7_isTrunk)), (92, (9, C_X7_in)), (53, (7, C_X7_disagreeing)), (163, (7, C_X7_beyondTare)), (49, (9, C_X7_flag))], 1)
set_option maxRecDepth 100000 in
set_option maxHeartbeats 1000000 in
theorem ok_X7_alike (L : Nat) (scr : Int → Int) (o : Nat) (t : Int) (w : Int) (M : Mem) (hp : o = 11 ∧ inr t ∧ inr w ∧ Inv (M 12)) : Runs sx_X7_alike L (xcF scr) (fun x M' => M = M' ∧ (¬ hasT (M 12) t ∧ x = -1 ∨ hasT (M 12) t ∧ (w = 0 ∨ w = 1) ∧ x = bt_ (msk (M 12) t = 0) 1 ∨ hasT (M 12) t ∧ ¬ (w = 0 ∨ w = 1) ∧ x = -2)) 0 [wR o, wI t, wI w] [] M := by
  obtain ⟨rfl, h1, h2, I⟩ := hp
  have i7 := I.2.1
  have mb := msk_bd (M 12) t
  have iB := I.1
  have i4 := iB.1.2.2.2.2.1
  unfold hasT
  by_cases h4 : 0 ≤ t ∧ t < M 12 7
  · obtain ⟨c0, c1, c2, -⟩ := iB.2.2.2 t h4.1 (by omega)
    have sz := sbP_z (f := M 12) (t := t) i4.1
    have sb := sbP_bd (f := M 12) (t := t) i4.1 c1.1 c2.1
    by_cases hw : 0 ≤ w ∧ w ≤ 1
    · refine R_aload_n (q := 1) (i := 0) rfl rfl rfl rfl ?_
      refine R_iload_n (q := 2) (i := 1) rfl rfl rfl rfl ?_
      refine R_cV1I (q := 5) (ci := 7) (C := C_X7_isTrunk) rfl rfl rfl rfl rfl ⟨_, _, rfl, ⟨rfl, h1, i7.2⟩⟩ rfl rfl (by omega) (fun x M' hc => ?_)
      replace hc := hc _ _ rfl
      rw [if_pos h4] at hc
      obtain ⟨rfl, rfl⟩ := hc
      refine R_if_ne (q := 8) (tgt := 10) rfl rfl (by decide) (by omega) (fun h5 => ?_) (fun h5 => ?_)
      · refine R_iload_n (q := 11) (i := 2) rfl rfl rfl rfl ?_
        refine R_i2l (q := 12) rfl rfl (by omega) ?_
        refine R_lconst (q := 13) (v := 0) rfl rfl rfl ?_
        refine R_lconst (q := 14) (v := 1) rfl rfl rfl ?_
        refine R_cS3I (q := 17) (ci := 9) (C := C_X7_in) rfl rfl rfl rfl rfl ⟨_, _, _, rfl, (by first | trivial | assumption | omega)⟩ rfl rfl (fun x M' hc => ?_)
        replace hc := hc _ _ _ rfl
        rw [if_pos hw] at hc
        obtain ⟨rfl, rfl⟩ := hc
        refine R_if_ne (q := 20) (tgt := 25) rfl rfl (by decide) (by omega) (fun h17 => ?_) (fun h17 => ?_)
        · refine R_iload_n (q := 26) (i := 2) rfl rfl rfl rfl ?_
          refine R_if_ne (q := 29) (tgt := 46) rfl rfl (by decide) (by omega) (fun h26 => ?_) (fun h26 => ?_)
          · refine R_aload_n (q := 47) (i := 0) rfl rfl rfl rfl ?_
            refine R_iload_n (q := 48) (i := 1) rfl rfl rfl rfl ?_
            refine R_cV1I (q := 51) (ci := 7) (C := C_X7_beyondTare) rfl rfl rfl rfl rfl ⟨_, _, rfl, ⟨rfl, by omega, iB⟩⟩ rfl rfl (by omega) (fun x M' hc => ?_)
            replace hc := hc _ _ rfl
            try simp only [sh_mr, mr_mr] at hc
            obtain ⟨rfl, rfl⟩ := hc
            refine R_if_ne (q := 54) (tgt := 58) rfl rfl (by decide) (by omega) (fun h51 => ?_) (fun h51 => ?_)
            · have e : bt_ (msk (M 12) t = 0) 1 = 0 := bt_f (fun z => h51 (sz.mpr z))
              refine R_iconst (q := 59) rfl rfl ?_
              refine R_cS1I (q := 62) (ci := 9) (C := C_X7_flag) rfl rfl rfl rfl rfl ⟨_, rfl, (by first | trivial | assumption | omega)⟩ rfl rfl (fun x M' hc => ?_)
              replace hc := hc _ rfl
              try simp only [sh_mr, mr_mr] at hc
              obtain ⟨rfl, rfl⟩ := hc
              refine R_ret rfl (Or.inl rfl) ?_
              exact ⟨rfl, Or.inr (Or.inl ⟨h4, by omega, e.symm⟩)⟩
            · have e : bt_ (msk (M 12) t = 0) 1 = 1 := bt_t (sz.mp (by omega))
              refine R_iconst (q := 55) rfl rfl ?_
              refine R_goto (q := 58) (tgt := 59) rfl rfl (by decide) ?_
              refine R_cS1I (q := 62) (ci := 9) (C := C_X7_flag) rfl rfl rfl rfl rfl ⟨_, rfl, (by first | trivial | assumption | omega)⟩ rfl rfl (fun x M' hc => ?_)
              replace hc := hc _ rfl
              try simp only [sh_mr, mr_mr] at hc
              obtain ⟨rfl, rfl⟩ := hc
              refine R_ret rfl (Or.inl rfl) ?_
              exact ⟨rfl, Or.inr (Or.inl ⟨h4, by omega, e.symm⟩)⟩
          · refine R_aload_n (q := 30) (i := 0) rfl rfl rfl rfl ?_
            refine R_iconst (q := 31) rfl rfl ?_
            refine R_iload_n (q := 32) (i := 1) rfl rfl rfl rfl ?_
            refine R_cV2I (q := 35) (ci := 7) (C := C_X7_disagreeing) rfl rfl rfl rfl rfl ⟨_, _, _, rfl, ⟨rfl, by omega, by omega, by rw [sh_0]; exact iB⟩⟩ rfl rfl (by omega) (fun x M' hc => ?_)
            replace hc := hc _ _ _ rfl
            rw [sh_0] at hc
            obtain ⟨rfl, rfl⟩ := hc
            refine R_if_ne (q := 38) (tgt := 42) rfl rfl (by decide) (by omega) (fun h35 => ?_) (fun h35 => ?_)
            · have e : bt_ (msk (M 12) t = 0) 1 = 0 := bt_f h35
              refine R_iconst (q := 43) rfl rfl ?_
              refine R_goto (q := 46) (tgt := 59) rfl rfl (by decide) ?_
              refine R_cS1I (q := 62) (ci := 9) (C := C_X7_flag) rfl rfl rfl rfl rfl ⟨_, rfl, (by first | trivial | assumption | omega)⟩ rfl rfl (fun x M' hc => ?_)
              replace hc := hc _ rfl
              try simp only [sh_mr, mr_mr] at hc
              obtain ⟨rfl, rfl⟩ := hc
              refine R_ret rfl (Or.inl rfl) ?_
              exact ⟨rfl, Or.inr (Or.inl ⟨h4, by omega, e.symm⟩)⟩
            · have e : bt_ (msk (M 12) t = 0) 1 = 1 := bt_t (by omega)
              refine R_iconst (q := 39) rfl rfl ?_
              refine R_goto (q := 42) (tgt := 59) rfl rfl (by decide) ?_
              refine R_cS1I (q := 62) (ci := 9) (C := C_X7_flag) rfl rfl rfl rfl rfl ⟨_, rfl, (by first | trivial | assumption | omega)⟩ rfl rfl (fun x M' hc => ?_)
              replace hc := hc _ rfl
              try simp only [sh_mr, mr_mr] at hc
              obtain ⟨rfl, rfl⟩ := hc
              refine R_ret rfl (Or.inl rfl) ?_
              exact ⟨rfl, Or.inr (Or.inl ⟨h4, by omega, e.symm⟩)⟩
        · omega
      · omega
    · refine R_aload_n (q := 1) (i := 0) rfl rfl rfl rfl ?_
      refine R_iload_n (q := 2) (i := 1) rfl rfl rfl rfl ?_
      refine R_cV1I (q := 5) (ci := 7) (C := C_X7_isTrunk) rfl rfl rfl rfl rfl ⟨_, _, rfl, ⟨rfl, h1, i7.2⟩⟩ rfl rfl (by omega) (fun x M' hc => ?_)
      replace hc := hc _ _ rfl
      rw [if_pos h4] at hc
      obtain ⟨rfl, rfl⟩ := hc
      refine R_if_ne (q := 8) (tgt := 10) rfl rfl (by decide) (by omega) (fun h5 => ?_) (fun h5 => ?_)
      · refine R_iload_n (q := 11) (i := 2) rfl rfl rfl rfl ?_
        refine R_i2l (q := 12) rfl rfl (by omega) ?_
        refine R_lconst (q := 13) (v := 0) rfl rfl rfl ?_
        refine R_lconst (q := 14) (v := 1) rfl rfl rfl ?_
        refine R_cS3I (q := 17) (ci := 9) (C := C_X7_in) rfl rfl rfl rfl rfl ⟨_, _, _, rfl, (by first | trivial | assumption | omega)⟩ rfl rfl (fun x M' hc => ?_)
        replace hc := hc _ _ _ rfl
        rw [if_neg hw] at hc
        obtain ⟨rfl, rfl⟩ := hc
        refine R_if_ne (q := 20) (tgt := 25) rfl rfl (by decide) (by omega) (fun h17 => ?_) (fun h17 => ?_)
        · omega
        · refine R_bipush (q := 22) rfl rfl (by decide) ?_
          refine R_goto (q := 25) (tgt := 62) rfl rfl (by decide) ?_
          refine R_ret rfl (Or.inl rfl) ?_
          exact ⟨rfl, Or.inr (Or.inr ⟨h4, by omega, rfl⟩)⟩
      · omega
  · refine R_aload_n (q := 1) (i := 0) rfl rfl rfl rfl ?_
    refine R_iload_n (q := 2) (i := 1) rfl rfl rfl rfl ?_
    refine R_cV1I (q := 5) (ci := 7) (C := C_X7_isTrunk) rfl rfl rfl rfl rfl ⟨_, _, rfl, ⟨rfl, h1, i7.2⟩⟩ rfl rfl (by omega) (fun x M' hc => ?_)
    replace hc := hc _ _ rfl
    rw [if_neg h4] at hc
    obtain ⟨rfl, rfl⟩ := hc
    refine R_if_ne (q := 8) (tgt := 10) rfl rfl (by decide) (by omega) (fun h5 => ?_) (fun h5 => ?_)
    · omega
    · refine R_iconst (q := 9) rfl rfl ?_
      refine R_ret rfl (Or.inl rfl) ?_
      exact ⟨rfl, Or.inl ⟨h4, rfl⟩⟩
set_option maxRecDepth 100000 in
theorem mt_X7_alike : MtOK yX7_alike cX7_alike 3 (some .int) 4 C_X7_alike := by
  refine mt_of sx_X7_alike (by decide +kernel) (Or.inl ⟨rfl, rfl, rfl⟩) (by decide +kernel) fdX7_ok kLX7_ok kIX7_ok sgX7_ok ntX7_ok
    (all_cons (clokV mt_X7_isTrunk rfl (GT_at 677 (by decide +kernel) (by decide +kernel)) (GT_at 44 (by decide +kernel) (by decide +kernel)) (GT_at 680 (by decide +kernel) (by decide +kernel)) (by decide +kernel) (by decide) (GT_at 679 (by decide +kernel) (by decide +kernel)) (GT_at 19 (by decide +kernel) (by decide +kernel)) rfl rfl) (all_cons (clokS mt_X7_in (GT_at 588 (by decide +kernel) (by decide +kernel)) (GT_at 44 (by decide +kernel) (by decide +kernel)) (GT_at 590 (by decide +kernel) (by decide +kernel)) (by decide +kernel) (by decide) (GT_at 589 (by decide +kernel) (by decide +kernel))) (all_cons (clokV mt_X7_disagreeing rfl (GT_at 688 (by decide +kernel) (by decide +kernel)) (GT_at 44 (by decide +kernel) (by decide +kernel)) (GT_at 691 (by decide +kernel) (by decide +kernel)) (by decide +kernel) (by decide) (GT_at 690 (by decide +kernel) (by decide +kernel)) (GT_at 21 (by decide +kernel) (by decide +kernel)) rfl rfl) (all_cons (clokV mt_X7_beyondTare rfl (GT_at 757 (by decide +kernel) (by decide +kernel)) (GT_at 44 (by decide +kernel) (by decide +kernel)) (GT_at 760 (by decide +kernel) (by decide +kernel)) (by decide +kernel) (by decide) (GT_at 759 (by decide +kernel) (by decide +kernel)) (GT_at 33 (by decide +kernel) (by decide +kernel)) rfl rfl) (all_cons (clokS mt_X7_flag (GT_at 645 (by decide +kernel) (by decide +kernel)) (GT_at 44 (by decide +kernel) (by decide +kernel)) (GT_at 647 (by decide +kernel) (by decide +kernel)) (by decide +kernel) (by decide) (GT_at 646 (by decide +kernel) (by decide +kernel))) (all_nil)))))) ?_ ?_
  · rintro as M - ⟨o, t, w, rfl, hp⟩
    exact Nat.le_of_ble_eq_true rfl
  · rintro L scr as M - ⟨o, t, w, rfl, hp⟩
    exact Runs.mono (fun x M' h _ _ _ e => by cases e; exact h) (ok_X7_alike L scr o t w M hp)
def sdP (f : Int → Int) (d : Int) : Nat → Int
  | 0 => 0
  | n + 1 => sdP f d n + dbt f (f (38 + 16 * d + (n : Int)))
def sdD (f : Int → Int) (d : Int) : Int := sdP f d (f (27 + 4 * d)).toNat
abbrev C_X7_doubtsAt : Ct := (2, true, fun as M => ∃ (o : Nat) (d : Int), as = [wR o, wI d] ∧ (o = 11 ∧ (0 ≤ d ∧ d < 3) ∧ Inv (M 12)), fun as M x M' => ∀ (o : Nat) (d : Int), as = [wR o, wI d] → ((sdD (M 12) d) = x ∧ (M) = M'))
def sx_X7_doubtsAt : Sx := (tb_X7_doubtsAt, fdX7, kLX7, kIX7, sgX7, ntX7, [(20, (9, C_X7_deskAt)), (56, (9, C_X7_queueAt)), (66, (7, C_X7_doubt))], 1)
set_option maxRecDepth 100000 in
set_option maxHeartbeats 1000000 in
theorem ok_X7_doubtsAt (L : Nat) (scr : Int → Int) (o : Nat) (d : Int) (M : Mem) (hp : o = 11 ∧ (0 ≤ d ∧ d < 3) ∧ Inv (M 12)) : Runs sx_X7_doubtsAt L (xcF scr) (fun x M' => (sdD (M 12) d) = x ∧ (M) = M') 0 [wR o, wI d, none, none] [] M := by
  obtain ⟨rfl, h1, I⟩ := hp
  have c := I.le h1.1 h1.2
  have i7 := I.2.1
  have L1 : ∀ (n k : Nat), k + n = (M 12 (27 + 4 * d)).toNat → Runs sx_X7_doubtsAt L (xcF scr) (fun x M' => (sdD (M 12) d) = x ∧ M = M') 4 [wR 11, wI d, wI (sdP (M 12) d k), wI (k : Int)] [] M := by
    intro n
    induction n with
    | zero =>
      intro k hk
      refine R_iload_n (q := 5) (i := 3) rfl rfl rfl rfl ?_
      refine R_aload_n (q := 6) (i := 0) rfl rfl rfl rfl ?_
      refine R_getR (q := 9) rfl rfl rfl rfl rfl (by omega) ?_
      refine R_iconst (q := 10) rfl rfl ?_
      refine R_iload_n (q := 11) (i := 1) rfl rfl rfl rfl ?_
      refine R_cS2I (q := 14) (ci := 9) (C := C_X7_deskAt) rfl rfl rfl rfl rfl ⟨_, _, rfl, (by first | trivial | assumption | omega)⟩ rfl rfl (fun x M' hc => ?_)
      replace hc := hc _ _ rfl
      try simp only [sh_mr, mr_mr] at hc
      obtain ⟨rfl, rfl⟩ := hc
      refine R_iconst (q := 15) rfl rfl ?_
      refine R_iadd (q := 16) rfl rfl ?_
      refine R_iald (q := 17) (v := M 12 (27 + 4 * d)) rfl rfl rfl (by omega) (by omega) (congrArg (M 12) (by omega)) ?_
      refine R_icmp_ge (q := 20) (tgt := 45) rfl rfl (by decide) (by omega) (by omega) (fun h17 => ?_) (fun h17 => ?_)
      · refine R_iload_n (q := 46) (i := 2) rfl rfl rfl rfl ?_
        refine R_ret rfl (Or.inl rfl) ?_
        unfold sdD
        rw [← hk]
        exact ⟨rfl, rfl⟩
      · omega
    | succ n ih =>
      intro k hk
      have q := I.2.2.2.2.1 d k ⟨h1.1, h1.2, by omega, by omega⟩
      refine R_iload_n (q := 5) (i := 3) rfl rfl rfl rfl ?_
      refine R_aload_n (q := 6) (i := 0) rfl rfl rfl rfl ?_
      refine R_getR (q := 9) rfl rfl rfl rfl rfl (by omega) ?_
      refine R_iconst (q := 10) rfl rfl ?_
      refine R_iload_n (q := 11) (i := 1) rfl rfl rfl rfl ?_
      refine R_cS2I (q := 14) (ci := 9) (C := C_X7_deskAt) rfl rfl rfl rfl rfl ⟨_, _, rfl, (by first | trivial | assumption | omega)⟩ rfl rfl (fun x M' hc => ?_)
      replace hc := hc _ _ rfl
      try simp only [sh_mr, mr_mr] at hc
      obtain ⟨rfl, rfl⟩ := hc
      refine R_iconst (q := 15) rfl rfl ?_
      refine R_iadd (q := 16) rfl rfl ?_
      refine R_iald (q := 17) (v := M 12 (27 + 4 * d)) rfl rfl rfl (by omega) (by omega) (congrArg (M 12) (by omega)) ?_
      refine R_icmp_ge (q := 20) (tgt := 45) rfl rfl (by decide) (by omega) (by omega) (fun h17 => ?_) (fun h17 => ?_)
      · omega
      · refine R_iload_n (q := 21) (i := 2) rfl rfl rfl rfl ?_
        refine R_aload_n (q := 22) (i := 0) rfl rfl rfl rfl ?_
        refine R_iconst (q := 23) rfl rfl ?_
        refine R_aload_n (q := 24) (i := 0) rfl rfl rfl rfl ?_
        refine R_getR (q := 27) rfl rfl rfl rfl rfl (by omega) ?_
        refine R_iconst (q := 28) rfl rfl ?_
        refine R_iload_n (q := 29) (i := 1) rfl rfl rfl rfl ?_
        refine R_iload_n (q := 30) (i := 3) rfl rfl rfl rfl ?_
        refine R_cS3I (q := 33) (ci := 9) (C := C_X7_queueAt) rfl rfl rfl rfl rfl ⟨_, _, _, rfl, (by first | trivial | assumption | omega)⟩ rfl rfl (fun x M' hc => ?_)
        replace hc := hc _ _ _ rfl
        try simp only [sh_mr, mr_mr] at hc
        obtain ⟨rfl, rfl⟩ := hc
        refine R_iald (q := 34) (v := M 12 (38 + 16 * d + (k : Int))) rfl rfl rfl (by omega) (by omega) (congrArg (M 12) (by omega)) ?_
        refine R_cV2I (q := 37) (ci := 7) (C := C_X7_doubt) rfl rfl rfl rfl rfl ⟨_, _, _, rfl, ⟨rfl, by omega, by omega, by rw [sh_0]; exact I.1⟩⟩ rfl rfl (by omega) (fun x M' hc => ?_)
        replace hc := hc _ _ _ rfl
        rw [sh_0] at hc
        obtain ⟨rfl, rfl⟩ := hc
        refine R_iadd (q := 38) rfl rfl ?_
        refine R_istore_n (q := 39) (i := 2) rfl rfl rfl rfl ?_
        refine R_iinc (q := 42) rfl rfl rfl rfl ?_
        refine R_goto (q := 45) (tgt := 4) rfl rfl (by decide) ?_
        exact ih (k + 1) (by omega)
  refine R_iconst (q := 1) rfl rfl ?_
  refine R_istore_n (q := 2) (i := 2) rfl rfl rfl rfl ?_
  refine R_iconst (q := 3) rfl rfl ?_
  refine R_istore_n (q := 4) (i := 3) rfl rfl rfl rfl ?_
  exact L1 (M 12 (27 + 4 * d)).toNat 0 (by omega)
set_option maxRecDepth 100000 in
theorem mt_X7_doubtsAt : MtOK yX7_doubtsAt cX7_doubtsAt 4 (some .int) 5 C_X7_doubtsAt := by
  refine mt_of sx_X7_doubtsAt (by decide +kernel) (Or.inl ⟨rfl, rfl, rfl⟩) (by decide +kernel) fdX7_ok kLX7_ok kIX7_ok sgX7_ok ntX7_ok
    (all_cons (clokS mt_X7_deskAt (GT_at 555 (by decide +kernel) (by decide +kernel)) (GT_at 44 (by decide +kernel) (by decide +kernel)) (GT_at 557 (by decide +kernel) (by decide +kernel)) (by decide +kernel) (by decide) (GT_at 556 (by decide +kernel) (by decide +kernel))) (all_cons (clokS mt_X7_queueAt (GT_at 666 (by decide +kernel) (by decide +kernel)) (GT_at 44 (by decide +kernel) (by decide +kernel)) (GT_at 668 (by decide +kernel) (by decide +kernel)) (by decide +kernel) (by decide) (GT_at 667 (by decide +kernel) (by decide +kernel))) (all_cons (clokV mt_X7_doubt rfl (GT_at 684 (by decide +kernel) (by decide +kernel)) (GT_at 44 (by decide +kernel) (by decide +kernel)) (GT_at 687 (by decide +kernel) (by decide +kernel)) (by decide +kernel) (by decide) (GT_at 686 (by decide +kernel) (by decide +kernel)) (GT_at 20 (by decide +kernel) (by decide +kernel)) rfl rfl) (all_nil)))) ?_ ?_
  · rintro as M - ⟨o, d, rfl, hp⟩
    exact Nat.le_of_ble_eq_true rfl
  · rintro L scr as M - ⟨o, d, rfl, hp⟩
    exact Runs.mono (fun x M' h _ _ e => by cases e; exact h) (ok_X7_doubtsAt L scr o d M hp)
abbrev C_X7_desk : Ct := (3, true, fun as M => ∃ (o : Nat) (d : Int) (w : Int), as = [wR o, wI d, wI w] ∧ (o = 11 ∧ inr d ∧ inr w ∧ Inv (M 12)), fun as M x M' => ∀ (o : Nat) (d : Int) (w : Int), as = [wR o, wI d, wI w] → (M = M' ∧ (¬ (0 ≤ d ∧ d < 3) ∧ x = -1 ∨ (0 ≤ d ∧ d < 3) ∧ (w = 0 ∧ x = M 12 (26 + 4 * d) ∨ w = 1 ∧ x = M 12 (27 + 4 * d) ∨ w = 2 ∧ x = sdD (M 12) d ∨ w = 3 ∧ x = M 12 (28 + 4 * d) ∨ w = 4 ∧ x = M 12 (29 + 4 * d) ∨ (w < 0 ∨ 4 < w) ∧ x = -2))))
def sx_X7_desk : Sx := (tb_X7_desk, fdX7, kLX7, kIX7, sgX7, ntX7, [(127, (9, C_X7_isDesk)), (20, (9, C_X7_deskAt)), (166, (7, C_X7_doubtsAt))], 1)
set_option maxRecDepth 100000 in
set_option maxHeartbeats 1000000 in
theorem ok_X7_desk (L : Nat) (scr : Int → Int) (o : Nat) (d : Int) (w : Int) (M : Mem) (hp : o = 11 ∧ inr d ∧ inr w ∧ Inv (M 12)) : Runs sx_X7_desk L (xcF scr) (fun x M' => M = M' ∧ (¬ (0 ≤ d ∧ d < 3) ∧ x = -1 ∨ (0 ≤ d ∧ d < 3) ∧ (w = 0 ∧ x = M 12 (26 + 4 * d) ∨ w = 1 ∧ x = M 12 (27 + 4 * d) ∨ w = 2 ∧ x = sdD (M 12) d ∨ w = 3 ∧ x = M 12 (28 + 4 * d) ∨ w = 4 ∧ x = M 12 (29 + 4 * d) ∨ (w < 0 ∨ 4 < w) ∧ x = -2))) 0 [wR o, wI d, wI w, none] [] M := by
  obtain ⟨rfl, h1, h2, I⟩ := hp
  by_cases hz4 : 0 ≤ d ∧ d < 3
  · have hz : w = 0 ∨ w = 1 ∨ w = 2 ∨ w = 3 ∨ w = 4 ∨ (w < 0 ∨ 4 < w) := by omega
    rcases hz with rfl | rfl | rfl | rfl | rfl | hz
    · refine R_iload_n (q := 1) (i := 1) rfl rfl rfl rfl ?_
      refine R_cS1I (q := 4) (ci := 9) (C := C_X7_isDesk) rfl rfl rfl rfl rfl ⟨_, rfl, (by first | trivial | assumption | omega)⟩ rfl rfl (fun x M' hc => ?_)
      replace hc := hc _ rfl
      rw [if_pos hz4] at hc
      obtain ⟨rfl, rfl⟩ := hc
      refine R_if_ne (q := 7) (tgt := 9) rfl rfl (by decide) (by omega) (fun h4 => ?_) (fun h4 => ?_)
      · refine R_iconst (q := 10) rfl rfl ?_
        refine R_iload_n (q := 11) (i := 1) rfl rfl rfl rfl ?_
        refine R_cS2I (q := 14) (ci := 9) (C := C_X7_deskAt) rfl rfl rfl rfl rfl ⟨_, _, rfl, (by first | trivial | assumption | omega)⟩ rfl rfl (fun x M' hc => ?_)
        replace hc := hc _ _ rfl
        try simp only [sh_mr, mr_mr] at hc
        obtain ⟨rfl, rfl⟩ := hc
        refine R_istore_n (q := 15) (i := 3) rfl rfl rfl rfl ?_
        refine R_iload_n (q := 16) (i := 2) rfl rfl rfl rfl ?_
        refine R_tblIn (q := 52) (off := 36) (tgt := 52) rfl rfl (by omega) (by omega) rfl (by decide) ?_
        refine R_aload_n (q := 53) (i := 0) rfl rfl rfl rfl ?_
        refine R_getR (q := 56) rfl rfl rfl rfl rfl (by omega) ?_
        refine R_iload_n (q := 57) (i := 3) rfl rfl rfl rfl ?_
        refine R_iconst (q := 58) rfl rfl ?_
        refine R_iadd (q := 59) rfl rfl ?_
        refine R_iald (q := 60) rfl rfl rfl (by omega) (by omega) rfl ?_
        refine R_ret rfl (Or.inl rfl) ?_
        exact ⟨rfl, Or.inr ⟨hz4, Or.inl ⟨rfl, congrArg (M 12) (by omega)⟩⟩⟩
      · omega
    · refine R_iload_n (q := 1) (i := 1) rfl rfl rfl rfl ?_
      refine R_cS1I (q := 4) (ci := 9) (C := C_X7_isDesk) rfl rfl rfl rfl rfl ⟨_, rfl, (by first | trivial | assumption | omega)⟩ rfl rfl (fun x M' hc => ?_)
      replace hc := hc _ rfl
      rw [if_pos hz4] at hc
      obtain ⟨rfl, rfl⟩ := hc
      refine R_if_ne (q := 7) (tgt := 9) rfl rfl (by decide) (by omega) (fun h4 => ?_) (fun h4 => ?_)
      · refine R_iconst (q := 10) rfl rfl ?_
        refine R_iload_n (q := 11) (i := 1) rfl rfl rfl rfl ?_
        refine R_cS2I (q := 14) (ci := 9) (C := C_X7_deskAt) rfl rfl rfl rfl rfl ⟨_, _, rfl, (by first | trivial | assumption | omega)⟩ rfl rfl (fun x M' hc => ?_)
        replace hc := hc _ _ rfl
        try simp only [sh_mr, mr_mr] at hc
        obtain ⟨rfl, rfl⟩ := hc
        refine R_istore_n (q := 15) (i := 3) rfl rfl rfl rfl ?_
        refine R_iload_n (q := 16) (i := 2) rfl rfl rfl rfl ?_
        refine R_tblIn (q := 52) (off := 45) (tgt := 61) rfl rfl (by omega) (by omega) rfl (by decide) ?_
        refine R_aload_n (q := 62) (i := 0) rfl rfl rfl rfl ?_
        refine R_getR (q := 65) rfl rfl rfl rfl rfl (by omega) ?_
        refine R_iload_n (q := 66) (i := 3) rfl rfl rfl rfl ?_
        refine R_iconst (q := 67) rfl rfl ?_
        refine R_iadd (q := 68) rfl rfl ?_
        refine R_iald (q := 69) rfl rfl rfl (by omega) (by omega) rfl ?_
        refine R_ret rfl (Or.inl rfl) ?_
        exact ⟨rfl, Or.inr ⟨hz4, Or.inr (Or.inl ⟨rfl, congrArg (M 12) (by omega)⟩)⟩⟩
      · omega
    · refine R_iload_n (q := 1) (i := 1) rfl rfl rfl rfl ?_
      refine R_cS1I (q := 4) (ci := 9) (C := C_X7_isDesk) rfl rfl rfl rfl rfl ⟨_, rfl, (by first | trivial | assumption | omega)⟩ rfl rfl (fun x M' hc => ?_)
      replace hc := hc _ rfl
      rw [if_pos hz4] at hc
      obtain ⟨rfl, rfl⟩ := hc
      refine R_if_ne (q := 7) (tgt := 9) rfl rfl (by decide) (by omega) (fun h4 => ?_) (fun h4 => ?_)
      · refine R_iconst (q := 10) rfl rfl ?_
        refine R_iload_n (q := 11) (i := 1) rfl rfl rfl rfl ?_
        refine R_cS2I (q := 14) (ci := 9) (C := C_X7_deskAt) rfl rfl rfl rfl rfl ⟨_, _, rfl, (by first | trivial | assumption | omega)⟩ rfl rfl (fun x M' hc => ?_)
        replace hc := hc _ _ rfl
        try simp only [sh_mr, mr_mr] at hc
        obtain ⟨rfl, rfl⟩ := hc
        refine R_istore_n (q := 15) (i := 3) rfl rfl rfl rfl ?_
        refine R_iload_n (q := 16) (i := 2) rfl rfl rfl rfl ?_
        refine R_tblIn (q := 52) (off := 54) (tgt := 70) rfl rfl (by omega) (by omega) rfl (by decide) ?_
        refine R_aload_n (q := 71) (i := 0) rfl rfl rfl rfl ?_
        refine R_iload_n (q := 72) (i := 1) rfl rfl rfl rfl ?_
        refine R_cV1I (q := 75) (ci := 7) (C := C_X7_doubtsAt) rfl rfl rfl rfl rfl ⟨_, _, rfl, ⟨rfl, hz4, I⟩⟩ rfl rfl (by omega) (fun x M' hc => ?_)
        replace hc := hc _ _ rfl
        try simp only [sh_mr, mr_mr] at hc
        obtain ⟨rfl, rfl⟩ := hc
        refine R_ret rfl (Or.inl rfl) ?_
        exact ⟨rfl, Or.inr ⟨hz4, Or.inr (Or.inr (Or.inl ⟨rfl, rfl⟩))⟩⟩
      · omega
    · refine R_iload_n (q := 1) (i := 1) rfl rfl rfl rfl ?_
      refine R_cS1I (q := 4) (ci := 9) (C := C_X7_isDesk) rfl rfl rfl rfl rfl ⟨_, rfl, (by first | trivial | assumption | omega)⟩ rfl rfl (fun x M' hc => ?_)
      replace hc := hc _ rfl
      rw [if_pos hz4] at hc
      obtain ⟨rfl, rfl⟩ := hc
      refine R_if_ne (q := 7) (tgt := 9) rfl rfl (by decide) (by omega) (fun h4 => ?_) (fun h4 => ?_)
      · refine R_iconst (q := 10) rfl rfl ?_
        refine R_iload_n (q := 11) (i := 1) rfl rfl rfl rfl ?_
        refine R_cS2I (q := 14) (ci := 9) (C := C_X7_deskAt) rfl rfl rfl rfl rfl ⟨_, _, rfl, (by first | trivial | assumption | omega)⟩ rfl rfl (fun x M' hc => ?_)
        replace hc := hc _ _ rfl
        try simp only [sh_mr, mr_mr] at hc
        obtain ⟨rfl, rfl⟩ := hc
        refine R_istore_n (q := 15) (i := 3) rfl rfl rfl rfl ?_
        refine R_iload_n (q := 16) (i := 2) rfl rfl rfl rfl ?_
        refine R_tblIn (q := 52) (off := 60) (tgt := 76) rfl rfl (by omega) (by omega) rfl (by decide) ?_
        refine R_aload_n (q := 77) (i := 0) rfl rfl rfl rfl ?_
        refine R_getR (q := 80) rfl rfl rfl rfl rfl (by omega) ?_
        refine R_iload_n (q := 81) (i := 3) rfl rfl rfl rfl ?_
        refine R_iconst (q := 82) rfl rfl ?_
        refine R_iadd (q := 83) rfl rfl ?_
        refine R_iald (q := 84) rfl rfl rfl (by omega) (by omega) rfl ?_
        refine R_ret rfl (Or.inl rfl) ?_
        exact ⟨rfl, Or.inr ⟨hz4, Or.inr (Or.inr (Or.inr (Or.inl ⟨rfl, congrArg (M 12) (by omega)⟩)))⟩⟩
      · omega
    · refine R_iload_n (q := 1) (i := 1) rfl rfl rfl rfl ?_
      refine R_cS1I (q := 4) (ci := 9) (C := C_X7_isDesk) rfl rfl rfl rfl rfl ⟨_, rfl, (by first | trivial | assumption | omega)⟩ rfl rfl (fun x M' hc => ?_)
      replace hc := hc _ rfl
      rw [if_pos hz4] at hc
      obtain ⟨rfl, rfl⟩ := hc
      refine R_if_ne (q := 7) (tgt := 9) rfl rfl (by decide) (by omega) (fun h4 => ?_) (fun h4 => ?_)
      · refine R_iconst (q := 10) rfl rfl ?_
        refine R_iload_n (q := 11) (i := 1) rfl rfl rfl rfl ?_
        refine R_cS2I (q := 14) (ci := 9) (C := C_X7_deskAt) rfl rfl rfl rfl rfl ⟨_, _, rfl, (by first | trivial | assumption | omega)⟩ rfl rfl (fun x M' hc => ?_)
        replace hc := hc _ _ rfl
        try simp only [sh_mr, mr_mr] at hc
        obtain ⟨rfl, rfl⟩ := hc
        refine R_istore_n (q := 15) (i := 3) rfl rfl rfl rfl ?_
        refine R_iload_n (q := 16) (i := 2) rfl rfl rfl rfl ?_
        refine R_tblIn (q := 52) (off := 69) (tgt := 85) rfl rfl (by omega) (by omega) rfl (by decide) ?_
        refine R_aload_n (q := 86) (i := 0) rfl rfl rfl rfl ?_
        refine R_getR (q := 89) rfl rfl rfl rfl rfl (by omega) ?_
        refine R_iload_n (q := 90) (i := 3) rfl rfl rfl rfl ?_
        refine R_iconst (q := 91) rfl rfl ?_
        refine R_iadd (q := 92) rfl rfl ?_
        refine R_iald (q := 93) rfl rfl rfl (by omega) (by omega) rfl ?_
        refine R_ret rfl (Or.inl rfl) ?_
        exact ⟨rfl, Or.inr ⟨hz4, Or.inr (Or.inr (Or.inr (Or.inr (Or.inl ⟨rfl, congrArg (M 12) (by omega)⟩))))⟩⟩
      · omega
    · refine R_iload_n (q := 1) (i := 1) rfl rfl rfl rfl ?_
      refine R_cS1I (q := 4) (ci := 9) (C := C_X7_isDesk) rfl rfl rfl rfl rfl ⟨_, rfl, (by first | trivial | assumption | omega)⟩ rfl rfl (fun x M' hc => ?_)
      replace hc := hc _ rfl
      rw [if_pos hz4] at hc
      obtain ⟨rfl, rfl⟩ := hc
      refine R_if_ne (q := 7) (tgt := 9) rfl rfl (by decide) (by omega) (fun h4 => ?_) (fun h4 => ?_)
      · refine R_iconst (q := 10) rfl rfl ?_
        refine R_iload_n (q := 11) (i := 1) rfl rfl rfl rfl ?_
        refine R_cS2I (q := 14) (ci := 9) (C := C_X7_deskAt) rfl rfl rfl rfl rfl ⟨_, _, rfl, (by first | trivial | assumption | omega)⟩ rfl rfl (fun x M' hc => ?_)
        replace hc := hc _ _ rfl
        try simp only [sh_mr, mr_mr] at hc
        obtain ⟨rfl, rfl⟩ := hc
        refine R_istore_n (q := 15) (i := 3) rfl rfl rfl rfl ?_
        refine R_iload_n (q := 16) (i := 2) rfl rfl rfl rfl ?_
        refine R_tblOut (q := 52) (tgt := 94) rfl rfl (by omega) (by omega) (by decide) ?_
        refine R_bipush (q := 96) rfl rfl (by decide) ?_
        refine R_ret rfl (Or.inl rfl) ?_
        exact ⟨rfl, Or.inr ⟨hz4, Or.inr (Or.inr (Or.inr (Or.inr (Or.inr ⟨hz, rfl⟩))))⟩⟩
      · omega
  · refine R_iload_n (q := 1) (i := 1) rfl rfl rfl rfl ?_
    refine R_cS1I (q := 4) (ci := 9) (C := C_X7_isDesk) rfl rfl rfl rfl rfl ⟨_, rfl, (by first | trivial | assumption | omega)⟩ rfl rfl (fun x M' hc => ?_)
    replace hc := hc _ rfl
    rw [if_neg hz4] at hc
    obtain ⟨rfl, rfl⟩ := hc
    refine R_if_ne (q := 7) (tgt := 9) rfl rfl (by decide) (by omega) (fun h4 => ?_) (fun h4 => ?_)
    · omega
    · refine R_iconst (q := 8) rfl rfl ?_
      refine R_ret rfl (Or.inl rfl) ?_
      exact ⟨rfl, Or.inl ⟨hz4, rfl⟩⟩
set_option maxRecDepth 100000 in
theorem mt_X7_desk : MtOK yX7_desk cX7_desk 4 (some .int) 6 C_X7_desk := by
  refine mt_of sx_X7_desk (by decide +kernel) (Or.inl ⟨rfl, rfl, rfl⟩) (by decide +kernel) fdX7_ok kLX7_ok kIX7_ok sgX7_ok ntX7_ok
    (all_cons (clokS mt_X7_isDesk (GT_at 624 (by decide +kernel) (by decide +kernel)) (GT_at 44 (by decide +kernel) (by decide +kernel)) (GT_at 626 (by decide +kernel) (by decide +kernel)) (by decide +kernel) (by decide) (GT_at 625 (by decide +kernel) (by decide +kernel))) (all_cons (clokS mt_X7_deskAt (GT_at 555 (by decide +kernel) (by decide +kernel)) (GT_at 44 (by decide +kernel) (by decide +kernel)) (GT_at 557 (by decide +kernel) (by decide +kernel)) (by decide +kernel) (by decide) (GT_at 556 (by decide +kernel) (by decide +kernel))) (all_cons (clokV mt_X7_doubtsAt rfl (GT_at 765 (by decide +kernel) (by decide +kernel)) (GT_at 44 (by decide +kernel) (by decide +kernel)) (GT_at 768 (by decide +kernel) (by decide +kernel)) (by decide +kernel) (by decide) (GT_at 767 (by decide +kernel) (by decide +kernel)) (GT_at 34 (by decide +kernel) (by decide +kernel)) rfl rfl) (all_nil)))) ?_ ?_
  · rintro as M - ⟨o, d, w, rfl, hp⟩
    exact Nat.le_of_ble_eq_true rfl
  · rintro L scr as M - ⟨o, d, w, rfl, hp⟩
    exact Runs.mono (fun x M' h _ _ _ e => by cases e; exact h) (ok_X7_desk L scr o d w M hp)
abbrev C_X7_pieces : Ct := (4, true, fun as M => ∃ (o : Nat) (t : Int) (w : Int) (k : Int), as = [wR o, wI t, wI w, wI k] ∧ (o = 11 ∧ inr t ∧ inr w ∧ inr k ∧ Inv (M 12)), fun as M x M' => ∀ (o : Nat) (t : Int) (w : Int) (k : Int), as = [wR o, wI t, wI w, wI k] → (M = M' ∧ (¬ (hasT (M 12) t ∧ 0 ≤ k ∧ k < 6) ∧ x = -1 ∨ (hasT (M 12) t ∧ 0 ≤ k ∧ k < 6) ∧ ((0 ≤ w ∧ w < 3) ∧ x = dig (M 12 (87 + 9 * t + w)) k ∨ ¬ (0 ≤ w ∧ w < 3) ∧ x = -2))))
def sx_X7_pieces : Sx := (tb_X7_pieces, fdX7, kLX7, kIX7, sgX7, ntX7, [(98, (7, C_X7_isTrunk)), (124, (9, C_X7_isKind)), (92, (9, C_X7_in)), (39, (9, C_X7_trunkAt)), (42, (9, C_X7_piecesOn))], 1)
set_option maxRecDepth 100000 in
set_option maxHeartbeats 1000000 in
theorem ok_X7_pieces (L : Nat) (scr : Int → Int) (o : Nat) (t : Int) (w : Int) (k : Int) (M : Mem) (hp : o = 11 ∧ inr t ∧ inr w ∧ inr k ∧ Inv (M 12)) : Runs sx_X7_pieces L (xcF scr) (fun x M' => M = M' ∧ (¬ (hasT (M 12) t ∧ 0 ≤ k ∧ k < 6) ∧ x = -1 ∨ (hasT (M 12) t ∧ 0 ≤ k ∧ k < 6) ∧ ((0 ≤ w ∧ w < 3) ∧ x = dig (M 12 (87 + 9 * t + w)) k ∨ ¬ (0 ≤ w ∧ w < 3) ∧ x = -2))) 0 [wR o, wI t, wI w, wI k] [] M := by
  obtain ⟨rfl, h1, h2, h3, I⟩ := hp
  have i7 := I.2.1
  have iB := I.1
  unfold hasT
  by_cases h4 : 0 ≤ t ∧ t < M 12 7
  · obtain ⟨c0, c1, c2, c3⟩ := iB.2.2.2 t h4.1 (by omega)
    by_cases hk5 : 0 ≤ k ∧ k < 6
    · by_cases h6 : 0 ≤ w ∧ w < 3
      · have cw : 0 ≤ M 12 (87 + 9 * t + w) ∧ M 12 (87 + 9 * t + w) < 1000000 := by
          have : w = 0 ∨ w = 1 ∨ w = 2 := by omega
          rcases this with rfl | rfl | rfl
          · rw [Int.add_zero]
            exact c1
          · rw [show 87 + 9 * t + 1 = 88 + 9 * t by omega]
            exact c2
          · rw [show 87 + 9 * t + 2 = 89 + 9 * t by omega]
            exact c3
        refine R_aload_n (q := 1) (i := 0) rfl rfl rfl rfl ?_
        refine R_iload_n (q := 2) (i := 1) rfl rfl rfl rfl ?_
        refine R_cV1I (q := 5) (ci := 7) (C := C_X7_isTrunk) rfl rfl rfl rfl rfl ⟨_, _, rfl, ⟨rfl, h1, i7.2⟩⟩ rfl rfl (by omega) (fun x M' hc => ?_)
        replace hc := hc _ _ rfl
        rw [if_pos h4] at hc
        obtain ⟨rfl, rfl⟩ := hc
        refine R_if_eq (q := 8) (tgt := 15) rfl rfl (by decide) (by omega) (fun h5 => ?_) (fun h5 => ?_)
        · omega
        · refine R_iload_n (q := 9) (i := 3) rfl rfl rfl rfl ?_
          refine R_cS1I (q := 12) (ci := 9) (C := C_X7_isKind) rfl rfl rfl rfl rfl ⟨_, rfl, (by first | trivial | assumption | omega)⟩ rfl rfl (fun x M' hc => ?_)
          replace hc := hc _ rfl
          rw [if_pos hk5] at hc
          obtain ⟨rfl, rfl⟩ := hc
          refine R_if_ne (q := 15) (tgt := 17) rfl rfl (by decide) (by omega) (fun h12 => ?_) (fun h12 => ?_)
          · refine R_iload_n (q := 18) (i := 2) rfl rfl rfl rfl ?_
            refine R_i2l (q := 19) rfl rfl (by omega) ?_
            refine R_lconst (q := 20) (v := 0) rfl rfl rfl ?_
            refine R_ldc2 (q := 23) rfl rfl rfl ?_
            refine R_cS3I (q := 26) (ci := 9) (C := C_X7_in) rfl rfl rfl rfl rfl ⟨_, _, _, rfl, (by first | trivial | assumption | omega)⟩ rfl rfl (fun x M' hc => ?_)
            replace hc := hc _ _ _ rfl
            rw [if_pos (by omega)] at hc
            obtain ⟨rfl, rfl⟩ := hc
            refine R_if_eq (q := 29) (tgt := 50) rfl rfl (by decide) (by omega) (fun h26 => ?_) (fun h26 => ?_)
            · omega
            · refine R_aload_n (q := 30) (i := 0) rfl rfl rfl rfl ?_
              refine R_getR (q := 33) rfl rfl rfl rfl rfl (by omega) ?_
              refine R_iconst (q := 34) rfl rfl ?_
              refine R_iload_n (q := 35) (i := 1) rfl rfl rfl rfl ?_
              refine R_cS2I (q := 38) (ci := 9) (C := C_X7_trunkAt) rfl rfl rfl rfl rfl ⟨_, _, rfl, (by first | trivial | assumption | omega)⟩ rfl rfl (fun x M' hc => ?_)
              replace hc := hc _ _ rfl
              try simp only [sh_mr, mr_mr] at hc
              obtain ⟨rfl, rfl⟩ := hc
              refine R_iconst (q := 39) rfl rfl ?_
              refine R_iadd (q := 40) rfl rfl ?_
              refine R_iload_n (q := 41) (i := 2) rfl rfl rfl rfl ?_
              refine R_iadd (q := 42) rfl rfl ?_
              refine R_iald (q := 43) (v := M 12 (87 + 9 * t + w)) rfl rfl rfl (by omega) (by omega) (congrArg (M 12) (by omega)) ?_
              refine R_iload_n (q := 44) (i := 3) rfl rfl rfl rfl ?_
              refine R_cS2I (q := 47) (ci := 9) (C := C_X7_piecesOn) rfl rfl rfl rfl rfl ⟨_, _, rfl, ⟨cw, hk5⟩⟩ rfl rfl (fun x M' hc => ?_)
              replace hc := hc _ _ rfl
              try simp only [sh_mr, mr_mr] at hc
              obtain ⟨rfl, rfl⟩ := hc
              refine R_goto (q := 50) (tgt := 52) rfl rfl (by decide) ?_
              refine R_ret rfl (Or.inl rfl) ?_
              exact ⟨rfl, Or.inr ⟨⟨h4, hk5⟩, Or.inl ⟨h6, rfl⟩⟩⟩
          · omega
      · refine R_aload_n (q := 1) (i := 0) rfl rfl rfl rfl ?_
        refine R_iload_n (q := 2) (i := 1) rfl rfl rfl rfl ?_
        refine R_cV1I (q := 5) (ci := 7) (C := C_X7_isTrunk) rfl rfl rfl rfl rfl ⟨_, _, rfl, ⟨rfl, h1, i7.2⟩⟩ rfl rfl (by omega) (fun x M' hc => ?_)
        replace hc := hc _ _ rfl
        rw [if_pos h4] at hc
        obtain ⟨rfl, rfl⟩ := hc
        refine R_if_eq (q := 8) (tgt := 15) rfl rfl (by decide) (by omega) (fun h5 => ?_) (fun h5 => ?_)
        · omega
        · refine R_iload_n (q := 9) (i := 3) rfl rfl rfl rfl ?_
          refine R_cS1I (q := 12) (ci := 9) (C := C_X7_isKind) rfl rfl rfl rfl rfl ⟨_, rfl, (by first | trivial | assumption | omega)⟩ rfl rfl (fun x M' hc => ?_)
          replace hc := hc _ rfl
          rw [if_pos hk5] at hc
          obtain ⟨rfl, rfl⟩ := hc
          refine R_if_ne (q := 15) (tgt := 17) rfl rfl (by decide) (by omega) (fun h12 => ?_) (fun h12 => ?_)
          · refine R_iload_n (q := 18) (i := 2) rfl rfl rfl rfl ?_
            refine R_i2l (q := 19) rfl rfl (by omega) ?_
            refine R_lconst (q := 20) (v := 0) rfl rfl rfl ?_
            refine R_ldc2 (q := 23) rfl rfl rfl ?_
            refine R_cS3I (q := 26) (ci := 9) (C := C_X7_in) rfl rfl rfl rfl rfl ⟨_, _, _, rfl, (by first | trivial | assumption | omega)⟩ rfl rfl (fun x M' hc => ?_)
            replace hc := hc _ _ _ rfl
            rw [if_neg (by omega)] at hc
            obtain ⟨rfl, rfl⟩ := hc
            refine R_if_eq (q := 29) (tgt := 50) rfl rfl (by decide) (by omega) (fun h26 => ?_) (fun h26 => ?_)
            · refine R_bipush (q := 52) rfl rfl (by decide) ?_
              refine R_ret rfl (Or.inl rfl) ?_
              exact ⟨rfl, Or.inr ⟨⟨h4, hk5⟩, Or.inr ⟨h6, rfl⟩⟩⟩
            · omega
          · omega
    · refine R_aload_n (q := 1) (i := 0) rfl rfl rfl rfl ?_
      refine R_iload_n (q := 2) (i := 1) rfl rfl rfl rfl ?_
      refine R_cV1I (q := 5) (ci := 7) (C := C_X7_isTrunk) rfl rfl rfl rfl rfl ⟨_, _, rfl, ⟨rfl, h1, i7.2⟩⟩ rfl rfl (by omega) (fun x M' hc => ?_)
      replace hc := hc _ _ rfl
      rw [if_pos h4] at hc
      obtain ⟨rfl, rfl⟩ := hc
      refine R_if_eq (q := 8) (tgt := 15) rfl rfl (by decide) (by omega) (fun h5 => ?_) (fun h5 => ?_)
      · omega
      · refine R_iload_n (q := 9) (i := 3) rfl rfl rfl rfl ?_
        refine R_cS1I (q := 12) (ci := 9) (C := C_X7_isKind) rfl rfl rfl rfl rfl ⟨_, rfl, (by first | trivial | assumption | omega)⟩ rfl rfl (fun x M' hc => ?_)
        replace hc := hc _ rfl
        rw [if_neg hk5] at hc
        obtain ⟨rfl, rfl⟩ := hc
        refine R_if_ne (q := 15) (tgt := 17) rfl rfl (by decide) (by omega) (fun h12 => ?_) (fun h12 => ?_)
        · omega
        · refine R_iconst (q := 16) rfl rfl ?_
          refine R_ret rfl (Or.inl rfl) ?_
          exact ⟨rfl, Or.inl ⟨fun z => hk5 z.2, rfl⟩⟩
  · refine R_aload_n (q := 1) (i := 0) rfl rfl rfl rfl ?_
    refine R_iload_n (q := 2) (i := 1) rfl rfl rfl rfl ?_
    refine R_cV1I (q := 5) (ci := 7) (C := C_X7_isTrunk) rfl rfl rfl rfl rfl ⟨_, _, rfl, ⟨rfl, h1, i7.2⟩⟩ rfl rfl (by omega) (fun x M' hc => ?_)
    replace hc := hc _ _ rfl
    rw [if_neg h4] at hc
    obtain ⟨rfl, rfl⟩ := hc
    refine R_if_eq (q := 8) (tgt := 15) rfl rfl (by decide) (by omega) (fun h5 => ?_) (fun h5 => ?_)
    · refine R_iconst (q := 16) rfl rfl ?_
      refine R_ret rfl (Or.inl rfl) ?_
      exact ⟨rfl, Or.inl ⟨fun z => h4 z.1, rfl⟩⟩
    · omega
set_option maxRecDepth 100000 in
theorem mt_X7_pieces : MtOK yX7_pieces cX7_pieces 4 (some .int) 2 C_X7_pieces := by
  refine mt_of sx_X7_pieces (by decide +kernel) (Or.inl ⟨rfl, rfl, rfl⟩) (by decide +kernel) fdX7_ok kLX7_ok kIX7_ok sgX7_ok ntX7_ok
    (all_cons (clokV mt_X7_isTrunk rfl (GT_at 677 (by decide +kernel) (by decide +kernel)) (GT_at 44 (by decide +kernel) (by decide +kernel)) (GT_at 680 (by decide +kernel) (by decide +kernel)) (by decide +kernel) (by decide) (GT_at 679 (by decide +kernel) (by decide +kernel)) (GT_at 19 (by decide +kernel) (by decide +kernel)) rfl rfl) (all_cons (clokS mt_X7_isKind (GT_at 612 (by decide +kernel) (by decide +kernel)) (GT_at 44 (by decide +kernel) (by decide +kernel)) (GT_at 614 (by decide +kernel) (by decide +kernel)) (by decide +kernel) (by decide) (GT_at 613 (by decide +kernel) (by decide +kernel))) (all_cons (clokS mt_X7_in (GT_at 588 (by decide +kernel) (by decide +kernel)) (GT_at 44 (by decide +kernel) (by decide +kernel)) (GT_at 590 (by decide +kernel) (by decide +kernel)) (by decide +kernel) (by decide) (GT_at 589 (by decide +kernel) (by decide +kernel))) (all_cons (clokS mt_X7_trunkAt (GT_at 659 (by decide +kernel) (by decide +kernel)) (GT_at 44 (by decide +kernel) (by decide +kernel)) (GT_at 661 (by decide +kernel) (by decide +kernel)) (by decide +kernel) (by decide) (GT_at 660 (by decide +kernel) (by decide +kernel))) (all_cons (clokS mt_X7_piecesOn (GT_at 681 (by decide +kernel) (by decide +kernel)) (GT_at 44 (by decide +kernel) (by decide +kernel)) (GT_at 683 (by decide +kernel) (by decide +kernel)) (by decide +kernel) (by decide) (GT_at 682 (by decide +kernel) (by decide +kernel))) (all_nil)))))) ?_ ?_
  · rintro as M - ⟨o, t, w, k, rfl, hp⟩
    exact Nat.le_of_ble_eq_true rfl
  · rintro L scr as M - ⟨o, t, w, k, rfl, hp⟩
    exact Runs.mono (fun x M' h _ _ _ _ e => by cases e; exact h) (ok_X7_pieces L scr o t w k M hp)
def trV (f : Int → Int) (t w : Int) : Int :=
  if w = 0 then f (86 + 9 * t) else if w = 1 then dko f t 3 else if w = 2 then (if dko f t 3 = -6 then -6 else plD f (dko f t 3) t) else if w = 3 then dbt f t else if w = 4 then msk f t else if w = 5 then f (91 + 9 * t) else if w = 6 then f (92 + 9 * t) else if w = 7 then f (90 + 9 * t) else if w = 8 then f (93 + 9 * t) else if w = 9 then f (94 + 9 * t) else -2
theorem trV_d {f : Int → Int} {t w : Int} (h : w < 0 ∨ 9 < w) : trV f t w = -2 := by
  unfold trV
  rw [if_neg (by omega), if_neg (by omega), if_neg (by omega), if_neg (by omega), if_neg (by omega), if_neg (by omega), if_neg (by omega), if_neg (by omega), if_neg (by omega), if_neg (by omega)]
abbrev C_X7_trunk : Ct := (3, true, fun as M => ∃ (o : Nat) (t : Int) (w : Int), as = [wR o, wI t, wI w] ∧ (o = 11 ∧ inr t ∧ inr w ∧ Inv (M 12)), fun as M x M' => ∀ (o : Nat) (t : Int) (w : Int), as = [wR o, wI t, wI w] → (M = M' ∧ (¬ hasT (M 12) t ∧ x = -1 ∨ hasT (M 12) t ∧ x = trV (M 12) t w)))
def sx_X7_trunk : Sx := (tb_X7_trunk, fdX7, kLX7, kIX7, sgX7, ntX7, [(98, (7, C_X7_isTrunk)), (39, (9, C_X7_trunkAt)), (155, (7, C_X7_deskOf)), (102, (7, C_X7_placeIn)), (66, (7, C_X7_doubt)), (53, (7, C_X7_disagreeing))], 1)
set_option maxRecDepth 100000 in
set_option maxHeartbeats 1000000 in
theorem ok_X7_trunk (L : Nat) (scr : Int → Int) (o : Nat) (t : Int) (w : Int) (M : Mem) (hp : o = 11 ∧ inr t ∧ inr w ∧ Inv (M 12)) : Runs sx_X7_trunk L (xcF scr) (fun x M' => M = M' ∧ (¬ hasT (M 12) t ∧ x = -1 ∨ hasT (M 12) t ∧ x = trV (M 12) t w)) 0 [wR o, wI t, wI w, none] [] M := by
  obtain ⟨rfl, h1, h2, I⟩ := hp
  have i7 := I.2.1
  have iB := I.1
  unfold hasT
  by_cases h4 : 0 ≤ t ∧ t < M 12 7
  · have hz : w = 0 ∨ w = 1 ∨ w = 2 ∨ w = 3 ∨ w = 4 ∨ w = 5 ∨ w = 6 ∨ w = 7 ∨ w = 8 ∨ w = 9 ∨ (w < 0 ∨ 9 < w) := by omega
    have db := dko_bd (f := M 12) (t := t) 3
    suffices hs : Runs sx_X7_trunk L (xcF scr) (fun x M' => M = M' ∧ x = trV (M 12) t w) 0 [wR 11, wI t, wI w, none] [] M from hs.mono (fun x M' h => ⟨h.1, Or.inr ⟨h4, h.2⟩⟩)
    rcases hz with rfl | rfl | rfl | rfl | rfl | rfl | rfl | rfl | rfl | rfl | hz
    · refine R_aload_n (q := 1) (i := 0) rfl rfl rfl rfl ?_
      refine R_iload_n (q := 2) (i := 1) rfl rfl rfl rfl ?_
      refine R_cV1I (q := 5) (ci := 7) (C := C_X7_isTrunk) rfl rfl rfl rfl rfl ⟨_, _, rfl, ⟨rfl, h1, i7.2⟩⟩ rfl rfl (by omega) (fun x M' hc => ?_)
      replace hc := hc _ _ rfl
      rw [if_pos h4] at hc
      obtain ⟨rfl, rfl⟩ := hc
      refine R_if_ne (q := 8) (tgt := 10) rfl rfl (by decide) (by omega) (fun h5 => ?_) (fun h5 => ?_)
      · refine R_iconst (q := 11) rfl rfl ?_
        refine R_iload_n (q := 12) (i := 1) rfl rfl rfl rfl ?_
        refine R_cS2I (q := 15) (ci := 9) (C := C_X7_trunkAt) rfl rfl rfl rfl rfl ⟨_, _, rfl, (by first | trivial | assumption | omega)⟩ rfl rfl (fun x M' hc => ?_)
        replace hc := hc _ _ rfl
        try simp only [sh_mr, mr_mr] at hc
        obtain ⟨rfl, rfl⟩ := hc
        refine R_istore_n (q := 16) (i := 3) rfl rfl rfl rfl ?_
        refine R_iload_n (q := 17) (i := 2) rfl rfl rfl rfl ?_
        refine R_tblIn (q := 72) (off := 55) (tgt := 72) rfl rfl (by omega) (by omega) rfl (by decide) ?_
        refine R_aload_n (q := 73) (i := 0) rfl rfl rfl rfl ?_
        refine R_getR (q := 76) rfl rfl rfl rfl rfl (by omega) ?_
        refine R_iload_n (q := 77) (i := 3) rfl rfl rfl rfl ?_
        refine R_iald (q := 78) (v := M 12 (86 + 9 * t)) rfl rfl rfl (by omega) (by omega) (congrArg (M 12) (by omega)) ?_
        refine R_ret rfl (Or.inl rfl) ?_
        exact ⟨rfl, rfl⟩
      · omega
    · refine R_aload_n (q := 1) (i := 0) rfl rfl rfl rfl ?_
      refine R_iload_n (q := 2) (i := 1) rfl rfl rfl rfl ?_
      refine R_cV1I (q := 5) (ci := 7) (C := C_X7_isTrunk) rfl rfl rfl rfl rfl ⟨_, _, rfl, ⟨rfl, h1, i7.2⟩⟩ rfl rfl (by omega) (fun x M' hc => ?_)
      replace hc := hc _ _ rfl
      rw [if_pos h4] at hc
      obtain ⟨rfl, rfl⟩ := hc
      refine R_if_ne (q := 8) (tgt := 10) rfl rfl (by decide) (by omega) (fun h5 => ?_) (fun h5 => ?_)
      · refine R_iconst (q := 11) rfl rfl ?_
        refine R_iload_n (q := 12) (i := 1) rfl rfl rfl rfl ?_
        refine R_cS2I (q := 15) (ci := 9) (C := C_X7_trunkAt) rfl rfl rfl rfl rfl ⟨_, _, rfl, (by first | trivial | assumption | omega)⟩ rfl rfl (fun x M' hc => ?_)
        replace hc := hc _ _ rfl
        try simp only [sh_mr, mr_mr] at hc
        obtain ⟨rfl, rfl⟩ := hc
        refine R_istore_n (q := 16) (i := 3) rfl rfl rfl rfl ?_
        refine R_iload_n (q := 17) (i := 2) rfl rfl rfl rfl ?_
        refine R_tblIn (q := 72) (off := 62) (tgt := 79) rfl rfl (by omega) (by omega) rfl (by decide) ?_
        refine R_aload_n (q := 80) (i := 0) rfl rfl rfl rfl ?_
        refine R_iload_n (q := 81) (i := 1) rfl rfl rfl rfl ?_
        refine R_cV1I (q := 84) (ci := 7) (C := C_X7_deskOf) rfl rfl rfl rfl rfl ⟨_, _, rfl, ⟨rfl, h1, I⟩⟩ rfl rfl (by omega) (fun x M' hc => ?_)
        replace hc := hc _ _ rfl
        try simp only [sh_mr, mr_mr] at hc
        obtain ⟨rfl, rfl⟩ := hc
        refine R_ret rfl (Or.inl rfl) ?_
        exact ⟨rfl, rfl⟩
      · omega
    · refine R_aload_n (q := 1) (i := 0) rfl rfl rfl rfl ?_
      refine R_iload_n (q := 2) (i := 1) rfl rfl rfl rfl ?_
      refine R_cV1I (q := 5) (ci := 7) (C := C_X7_isTrunk) rfl rfl rfl rfl rfl ⟨_, _, rfl, ⟨rfl, h1, i7.2⟩⟩ rfl rfl (by omega) (fun x M' hc => ?_)
      replace hc := hc _ _ rfl
      rw [if_pos h4] at hc
      obtain ⟨rfl, rfl⟩ := hc
      refine R_if_ne (q := 8) (tgt := 10) rfl rfl (by decide) (by omega) (fun h5 => ?_) (fun h5 => ?_)
      · refine R_iconst (q := 11) rfl rfl ?_
        refine R_iload_n (q := 12) (i := 1) rfl rfl rfl rfl ?_
        refine R_cS2I (q := 15) (ci := 9) (C := C_X7_trunkAt) rfl rfl rfl rfl rfl ⟨_, _, rfl, (by first | trivial | assumption | omega)⟩ rfl rfl (fun x M' hc => ?_)
        replace hc := hc _ _ rfl
        try simp only [sh_mr, mr_mr] at hc
        obtain ⟨rfl, rfl⟩ := hc
        refine R_istore_n (q := 16) (i := 3) rfl rfl rfl rfl ?_
        refine R_iload_n (q := 17) (i := 2) rfl rfl rfl rfl ?_
        refine R_tblIn (q := 72) (off := 68) (tgt := 85) rfl rfl (by omega) (by omega) rfl (by decide) ?_
        refine R_aload_n (q := 86) (i := 0) rfl rfl rfl rfl ?_
        refine R_iload_n (q := 87) (i := 1) rfl rfl rfl rfl ?_
        refine R_cV1I (q := 90) (ci := 7) (C := C_X7_deskOf) rfl rfl rfl rfl rfl ⟨_, _, rfl, ⟨rfl, h1, I⟩⟩ rfl rfl (by omega) (fun x M' hc => ?_)
        replace hc := hc _ _ rfl
        try simp only [sh_mr, mr_mr] at hc
        obtain ⟨rfl, rfl⟩ := hc
        refine R_bipush (q := 92) rfl rfl (by decide) ?_
        refine R_icmp_ne (q := 95) (tgt := 100) rfl rfl (by decide) (by omega) (by omega) (fun h92 => ?_) (fun h92 => ?_)
        · have e : (if dko (M 12) t 3 = -6 then -6 else plD (M 12) (dko (M 12) t 3) t) = plD (M 12) (dko (M 12) t 3) t := if_neg h92
          refine R_aload_n (q := 101) (i := 0) rfl rfl rfl rfl ?_
          refine R_aload_n (q := 102) (i := 0) rfl rfl rfl rfl ?_
          refine R_iload_n (q := 103) (i := 1) rfl rfl rfl rfl ?_
          refine R_cV1I (q := 106) (ci := 7) (C := C_X7_deskOf) rfl rfl rfl rfl rfl ⟨_, _, rfl, ⟨rfl, h1, I⟩⟩ rfl rfl (by omega) (fun x M' hc => ?_)
          replace hc := hc _ _ rfl
          try simp only [sh_mr, mr_mr] at hc
          obtain ⟨rfl, rfl⟩ := hc
          refine R_iload_n (q := 107) (i := 1) rfl rfl rfl rfl ?_
          refine R_cV2I (q := 110) (ci := 7) (C := C_X7_placeIn) rfl rfl rfl rfl rfl ⟨_, _, _, rfl, ⟨rfl, by omega, h1, I⟩⟩ rfl rfl (by omega) (fun x M' hc => ?_)
          replace hc := hc _ _ _ rfl
          try simp only [sh_mr, mr_mr] at hc
          obtain ⟨rfl, rfl⟩ := hc
          refine R_ret rfl (Or.inl rfl) ?_
          exact ⟨rfl, e.symm⟩
        · have e : (if dko (M 12) t 3 = -6 then -6 else plD (M 12) (dko (M 12) t 3) t) = -6 := if_pos (by omega)
          refine R_bipush (q := 97) rfl rfl (by decide) ?_
          refine R_goto (q := 100) (tgt := 110) rfl rfl (by decide) ?_
          refine R_ret rfl (Or.inl rfl) ?_
          exact ⟨rfl, e.symm⟩
      · omega
    · refine R_aload_n (q := 1) (i := 0) rfl rfl rfl rfl ?_
      refine R_iload_n (q := 2) (i := 1) rfl rfl rfl rfl ?_
      refine R_cV1I (q := 5) (ci := 7) (C := C_X7_isTrunk) rfl rfl rfl rfl rfl ⟨_, _, rfl, ⟨rfl, h1, i7.2⟩⟩ rfl rfl (by omega) (fun x M' hc => ?_)
      replace hc := hc _ _ rfl
      rw [if_pos h4] at hc
      obtain ⟨rfl, rfl⟩ := hc
      refine R_if_ne (q := 8) (tgt := 10) rfl rfl (by decide) (by omega) (fun h5 => ?_) (fun h5 => ?_)
      · refine R_iconst (q := 11) rfl rfl ?_
        refine R_iload_n (q := 12) (i := 1) rfl rfl rfl rfl ?_
        refine R_cS2I (q := 15) (ci := 9) (C := C_X7_trunkAt) rfl rfl rfl rfl rfl ⟨_, _, rfl, (by first | trivial | assumption | omega)⟩ rfl rfl (fun x M' hc => ?_)
        replace hc := hc _ _ rfl
        try simp only [sh_mr, mr_mr] at hc
        obtain ⟨rfl, rfl⟩ := hc
        refine R_istore_n (q := 16) (i := 3) rfl rfl rfl rfl ?_
        refine R_iload_n (q := 17) (i := 2) rfl rfl rfl rfl ?_
        refine R_tblIn (q := 72) (off := 94) (tgt := 111) rfl rfl (by omega) (by omega) rfl (by decide) ?_
        refine R_aload_n (q := 112) (i := 0) rfl rfl rfl rfl ?_
        refine R_iconst (q := 113) rfl rfl ?_
        refine R_iload_n (q := 114) (i := 1) rfl rfl rfl rfl ?_
        refine R_cV2I (q := 117) (ci := 7) (C := C_X7_doubt) rfl rfl rfl rfl rfl ⟨_, _, _, rfl, ⟨rfl, by omega, by omega, by rw [sh_0]; exact iB⟩⟩ rfl rfl (by omega) (fun x M' hc => ?_)
        replace hc := hc _ _ _ rfl
        rw [sh_0] at hc
        obtain ⟨rfl, rfl⟩ := hc
        refine R_ret rfl (Or.inl rfl) ?_
        exact ⟨rfl, rfl⟩
      · omega
    · refine R_aload_n (q := 1) (i := 0) rfl rfl rfl rfl ?_
      refine R_iload_n (q := 2) (i := 1) rfl rfl rfl rfl ?_
      refine R_cV1I (q := 5) (ci := 7) (C := C_X7_isTrunk) rfl rfl rfl rfl rfl ⟨_, _, rfl, ⟨rfl, h1, i7.2⟩⟩ rfl rfl (by omega) (fun x M' hc => ?_)
      replace hc := hc _ _ rfl
      rw [if_pos h4] at hc
      obtain ⟨rfl, rfl⟩ := hc
      refine R_if_ne (q := 8) (tgt := 10) rfl rfl (by decide) (by omega) (fun h5 => ?_) (fun h5 => ?_)
      · refine R_iconst (q := 11) rfl rfl ?_
        refine R_iload_n (q := 12) (i := 1) rfl rfl rfl rfl ?_
        refine R_cS2I (q := 15) (ci := 9) (C := C_X7_trunkAt) rfl rfl rfl rfl rfl ⟨_, _, rfl, (by first | trivial | assumption | omega)⟩ rfl rfl (fun x M' hc => ?_)
        replace hc := hc _ _ rfl
        try simp only [sh_mr, mr_mr] at hc
        obtain ⟨rfl, rfl⟩ := hc
        refine R_istore_n (q := 16) (i := 3) rfl rfl rfl rfl ?_
        refine R_iload_n (q := 17) (i := 2) rfl rfl rfl rfl ?_
        refine R_tblIn (q := 72) (off := 101) (tgt := 118) rfl rfl (by omega) (by omega) rfl (by decide) ?_
        refine R_aload_n (q := 119) (i := 0) rfl rfl rfl rfl ?_
        refine R_iconst (q := 120) rfl rfl ?_
        refine R_iload_n (q := 121) (i := 1) rfl rfl rfl rfl ?_
        refine R_cV2I (q := 124) (ci := 7) (C := C_X7_disagreeing) rfl rfl rfl rfl rfl ⟨_, _, _, rfl, ⟨rfl, by omega, by omega, by rw [sh_0]; exact iB⟩⟩ rfl rfl (by omega) (fun x M' hc => ?_)
        replace hc := hc _ _ _ rfl
        rw [sh_0] at hc
        obtain ⟨rfl, rfl⟩ := hc
        refine R_ret rfl (Or.inl rfl) ?_
        exact ⟨rfl, rfl⟩
      · omega
    · refine R_aload_n (q := 1) (i := 0) rfl rfl rfl rfl ?_
      refine R_iload_n (q := 2) (i := 1) rfl rfl rfl rfl ?_
      refine R_cV1I (q := 5) (ci := 7) (C := C_X7_isTrunk) rfl rfl rfl rfl rfl ⟨_, _, rfl, ⟨rfl, h1, i7.2⟩⟩ rfl rfl (by omega) (fun x M' hc => ?_)
      replace hc := hc _ _ rfl
      rw [if_pos h4] at hc
      obtain ⟨rfl, rfl⟩ := hc
      refine R_if_ne (q := 8) (tgt := 10) rfl rfl (by decide) (by omega) (fun h5 => ?_) (fun h5 => ?_)
      · refine R_iconst (q := 11) rfl rfl ?_
        refine R_iload_n (q := 12) (i := 1) rfl rfl rfl rfl ?_
        refine R_cS2I (q := 15) (ci := 9) (C := C_X7_trunkAt) rfl rfl rfl rfl rfl ⟨_, _, rfl, (by first | trivial | assumption | omega)⟩ rfl rfl (fun x M' hc => ?_)
        replace hc := hc _ _ rfl
        try simp only [sh_mr, mr_mr] at hc
        obtain ⟨rfl, rfl⟩ := hc
        refine R_istore_n (q := 16) (i := 3) rfl rfl rfl rfl ?_
        refine R_iload_n (q := 17) (i := 2) rfl rfl rfl rfl ?_
        refine R_tblIn (q := 72) (off := 108) (tgt := 125) rfl rfl (by omega) (by omega) rfl (by decide) ?_
        refine R_aload_n (q := 126) (i := 0) rfl rfl rfl rfl ?_
        refine R_getR (q := 129) rfl rfl rfl rfl rfl (by omega) ?_
        refine R_iload_n (q := 130) (i := 3) rfl rfl rfl rfl ?_
        refine R_iconst (q := 131) rfl rfl ?_
        refine R_iadd (q := 132) rfl rfl ?_
        refine R_iald (q := 133) (v := M 12 (91 + 9 * t)) rfl rfl rfl (by omega) (by omega) (congrArg (M 12) (by omega)) ?_
        refine R_ret rfl (Or.inl rfl) ?_
        exact ⟨rfl, rfl⟩
      · omega
    · refine R_aload_n (q := 1) (i := 0) rfl rfl rfl rfl ?_
      refine R_iload_n (q := 2) (i := 1) rfl rfl rfl rfl ?_
      refine R_cV1I (q := 5) (ci := 7) (C := C_X7_isTrunk) rfl rfl rfl rfl rfl ⟨_, _, rfl, ⟨rfl, h1, i7.2⟩⟩ rfl rfl (by omega) (fun x M' hc => ?_)
      replace hc := hc _ _ rfl
      rw [if_pos h4] at hc
      obtain ⟨rfl, rfl⟩ := hc
      refine R_if_ne (q := 8) (tgt := 10) rfl rfl (by decide) (by omega) (fun h5 => ?_) (fun h5 => ?_)
      · refine R_iconst (q := 11) rfl rfl ?_
        refine R_iload_n (q := 12) (i := 1) rfl rfl rfl rfl ?_
        refine R_cS2I (q := 15) (ci := 9) (C := C_X7_trunkAt) rfl rfl rfl rfl rfl ⟨_, _, rfl, (by first | trivial | assumption | omega)⟩ rfl rfl (fun x M' hc => ?_)
        replace hc := hc _ _ rfl
        try simp only [sh_mr, mr_mr] at hc
        obtain ⟨rfl, rfl⟩ := hc
        refine R_istore_n (q := 16) (i := 3) rfl rfl rfl rfl ?_
        refine R_iload_n (q := 17) (i := 2) rfl rfl rfl rfl ?_
        refine R_tblIn (q := 72) (off := 117) (tgt := 134) rfl rfl (by omega) (by omega) rfl (by decide) ?_
        refine R_aload_n (q := 135) (i := 0) rfl rfl rfl rfl ?_
        refine R_getR (q := 138) rfl rfl rfl rfl rfl (by omega) ?_
        refine R_iload_n (q := 139) (i := 3) rfl rfl rfl rfl ?_
        refine R_bipush (q := 141) rfl rfl (by decide) ?_
        refine R_iadd (q := 142) rfl rfl ?_
        refine R_iald (q := 143) (v := M 12 (92 + 9 * t)) rfl rfl rfl (by omega) (by omega) (congrArg (M 12) (by omega)) ?_
        refine R_ret rfl (Or.inl rfl) ?_
        exact ⟨rfl, rfl⟩
      · omega
    · refine R_aload_n (q := 1) (i := 0) rfl rfl rfl rfl ?_
      refine R_iload_n (q := 2) (i := 1) rfl rfl rfl rfl ?_
      refine R_cV1I (q := 5) (ci := 7) (C := C_X7_isTrunk) rfl rfl rfl rfl rfl ⟨_, _, rfl, ⟨rfl, h1, i7.2⟩⟩ rfl rfl (by omega) (fun x M' hc => ?_)
      replace hc := hc _ _ rfl
      rw [if_pos h4] at hc
      obtain ⟨rfl, rfl⟩ := hc
      refine R_if_ne (q := 8) (tgt := 10) rfl rfl (by decide) (by omega) (fun h5 => ?_) (fun h5 => ?_)
      · refine R_iconst (q := 11) rfl rfl ?_
        refine R_iload_n (q := 12) (i := 1) rfl rfl rfl rfl ?_
        refine R_cS2I (q := 15) (ci := 9) (C := C_X7_trunkAt) rfl rfl rfl rfl rfl ⟨_, _, rfl, (by first | trivial | assumption | omega)⟩ rfl rfl (fun x M' hc => ?_)
        replace hc := hc _ _ rfl
        try simp only [sh_mr, mr_mr] at hc
        obtain ⟨rfl, rfl⟩ := hc
        refine R_istore_n (q := 16) (i := 3) rfl rfl rfl rfl ?_
        refine R_iload_n (q := 17) (i := 2) rfl rfl rfl rfl ?_
        refine R_tblIn (q := 72) (off := 127) (tgt := 144) rfl rfl (by omega) (by omega) rfl (by decide) ?_
        refine R_aload_n (q := 145) (i := 0) rfl rfl rfl rfl ?_
        refine R_getR (q := 148) rfl rfl rfl rfl rfl (by omega) ?_
        refine R_iload_n (q := 149) (i := 3) rfl rfl rfl rfl ?_
        refine R_iconst (q := 150) rfl rfl ?_
        refine R_iadd (q := 151) rfl rfl ?_
        refine R_iald (q := 152) (v := M 12 (90 + 9 * t)) rfl rfl rfl (by omega) (by omega) (congrArg (M 12) (by omega)) ?_
        refine R_ret rfl (Or.inl rfl) ?_
        exact ⟨rfl, rfl⟩
      · omega
    · refine R_aload_n (q := 1) (i := 0) rfl rfl rfl rfl ?_
      refine R_iload_n (q := 2) (i := 1) rfl rfl rfl rfl ?_
      refine R_cV1I (q := 5) (ci := 7) (C := C_X7_isTrunk) rfl rfl rfl rfl rfl ⟨_, _, rfl, ⟨rfl, h1, i7.2⟩⟩ rfl rfl (by omega) (fun x M' hc => ?_)
      replace hc := hc _ _ rfl
      rw [if_pos h4] at hc
      obtain ⟨rfl, rfl⟩ := hc
      refine R_if_ne (q := 8) (tgt := 10) rfl rfl (by decide) (by omega) (fun h5 => ?_) (fun h5 => ?_)
      · refine R_iconst (q := 11) rfl rfl ?_
        refine R_iload_n (q := 12) (i := 1) rfl rfl rfl rfl ?_
        refine R_cS2I (q := 15) (ci := 9) (C := C_X7_trunkAt) rfl rfl rfl rfl rfl ⟨_, _, rfl, (by first | trivial | assumption | omega)⟩ rfl rfl (fun x M' hc => ?_)
        replace hc := hc _ _ rfl
        try simp only [sh_mr, mr_mr] at hc
        obtain ⟨rfl, rfl⟩ := hc
        refine R_istore_n (q := 16) (i := 3) rfl rfl rfl rfl ?_
        refine R_iload_n (q := 17) (i := 2) rfl rfl rfl rfl ?_
        refine R_tblIn (q := 72) (off := 136) (tgt := 153) rfl rfl (by omega) (by omega) rfl (by decide) ?_
        refine R_aload_n (q := 154) (i := 0) rfl rfl rfl rfl ?_
        refine R_getR (q := 157) rfl rfl rfl rfl rfl (by omega) ?_
        refine R_iload_n (q := 158) (i := 3) rfl rfl rfl rfl ?_
        refine R_iload_n (q := 159) (i := 2) rfl rfl rfl rfl ?_
        refine R_iadd (q := 160) rfl rfl ?_
        refine R_iconst (q := 161) rfl rfl ?_
        refine R_isub (q := 162) rfl rfl ?_
        refine R_iald (q := 163) (v := M 12 (93 + 9 * t)) rfl rfl rfl (by omega) (by omega) (congrArg (M 12) (by omega)) ?_
        refine R_ret rfl (Or.inl rfl) ?_
        exact ⟨rfl, rfl⟩
      · omega
    · refine R_aload_n (q := 1) (i := 0) rfl rfl rfl rfl ?_
      refine R_iload_n (q := 2) (i := 1) rfl rfl rfl rfl ?_
      refine R_cV1I (q := 5) (ci := 7) (C := C_X7_isTrunk) rfl rfl rfl rfl rfl ⟨_, _, rfl, ⟨rfl, h1, i7.2⟩⟩ rfl rfl (by omega) (fun x M' hc => ?_)
      replace hc := hc _ _ rfl
      rw [if_pos h4] at hc
      obtain ⟨rfl, rfl⟩ := hc
      refine R_if_ne (q := 8) (tgt := 10) rfl rfl (by decide) (by omega) (fun h5 => ?_) (fun h5 => ?_)
      · refine R_iconst (q := 11) rfl rfl ?_
        refine R_iload_n (q := 12) (i := 1) rfl rfl rfl rfl ?_
        refine R_cS2I (q := 15) (ci := 9) (C := C_X7_trunkAt) rfl rfl rfl rfl rfl ⟨_, _, rfl, (by first | trivial | assumption | omega)⟩ rfl rfl (fun x M' hc => ?_)
        replace hc := hc _ _ rfl
        try simp only [sh_mr, mr_mr] at hc
        obtain ⟨rfl, rfl⟩ := hc
        refine R_istore_n (q := 16) (i := 3) rfl rfl rfl rfl ?_
        refine R_iload_n (q := 17) (i := 2) rfl rfl rfl rfl ?_
        refine R_tblIn (q := 72) (off := 136) (tgt := 153) rfl rfl (by omega) (by omega) rfl (by decide) ?_
        refine R_aload_n (q := 154) (i := 0) rfl rfl rfl rfl ?_
        refine R_getR (q := 157) rfl rfl rfl rfl rfl (by omega) ?_
        refine R_iload_n (q := 158) (i := 3) rfl rfl rfl rfl ?_
        refine R_iload_n (q := 159) (i := 2) rfl rfl rfl rfl ?_
        refine R_iadd (q := 160) rfl rfl ?_
        refine R_iconst (q := 161) rfl rfl ?_
        refine R_isub (q := 162) rfl rfl ?_
        refine R_iald (q := 163) (v := M 12 (94 + 9 * t)) rfl rfl rfl (by omega) (by omega) (congrArg (M 12) (by omega)) ?_
        refine R_ret rfl (Or.inl rfl) ?_
        exact ⟨rfl, rfl⟩
      · omega
    · refine R_aload_n (q := 1) (i := 0) rfl rfl rfl rfl ?_
      refine R_iload_n (q := 2) (i := 1) rfl rfl rfl rfl ?_
      refine R_cV1I (q := 5) (ci := 7) (C := C_X7_isTrunk) rfl rfl rfl rfl rfl ⟨_, _, rfl, ⟨rfl, h1, i7.2⟩⟩ rfl rfl (by omega) (fun x M' hc => ?_)
      replace hc := hc _ _ rfl
      rw [if_pos h4] at hc
      obtain ⟨rfl, rfl⟩ := hc
      refine R_if_ne (q := 8) (tgt := 10) rfl rfl (by decide) (by omega) (fun h5 => ?_) (fun h5 => ?_)
      · refine R_iconst (q := 11) rfl rfl ?_
        refine R_iload_n (q := 12) (i := 1) rfl rfl rfl rfl ?_
        refine R_cS2I (q := 15) (ci := 9) (C := C_X7_trunkAt) rfl rfl rfl rfl rfl ⟨_, _, rfl, (by first | trivial | assumption | omega)⟩ rfl rfl (fun x M' hc => ?_)
        replace hc := hc _ _ rfl
        try simp only [sh_mr, mr_mr] at hc
        obtain ⟨rfl, rfl⟩ := hc
        refine R_istore_n (q := 16) (i := 3) rfl rfl rfl rfl ?_
        refine R_iload_n (q := 17) (i := 2) rfl rfl rfl rfl ?_
        refine R_tblOut (q := 72) (tgt := 164) rfl rfl (by omega) (by omega) (by decide) ?_
        refine R_bipush (q := 166) rfl rfl (by decide) ?_
        refine R_ret rfl (Or.inl rfl) ?_
        exact ⟨rfl, (trV_d hz).symm⟩
      · omega
  · refine R_aload_n (q := 1) (i := 0) rfl rfl rfl rfl ?_
    refine R_iload_n (q := 2) (i := 1) rfl rfl rfl rfl ?_
    refine R_cV1I (q := 5) (ci := 7) (C := C_X7_isTrunk) rfl rfl rfl rfl rfl ⟨_, _, rfl, ⟨rfl, h1, i7.2⟩⟩ rfl rfl (by omega) (fun x M' hc => ?_)
    replace hc := hc _ _ rfl
    rw [if_neg h4] at hc
    obtain ⟨rfl, rfl⟩ := hc
    refine R_if_ne (q := 8) (tgt := 10) rfl rfl (by decide) (by omega) (fun h5 => ?_) (fun h5 => ?_)
    · omega
    · refine R_iconst (q := 9) rfl rfl ?_
      refine R_ret rfl (Or.inl rfl) ?_
      exact ⟨rfl, Or.inl ⟨h4, rfl⟩⟩
set_option maxRecDepth 100000 in
theorem mt_X7_trunk : MtOK yX7_trunk cX7_trunk 4 (some .int) 5 C_X7_trunk := by
  refine mt_of sx_X7_trunk (by decide +kernel) (Or.inl ⟨rfl, rfl, rfl⟩) (by decide +kernel) fdX7_ok kLX7_ok kIX7_ok sgX7_ok ntX7_ok
    (all_cons (clokV mt_X7_isTrunk rfl (GT_at 677 (by decide +kernel) (by decide +kernel)) (GT_at 44 (by decide +kernel) (by decide +kernel)) (GT_at 680 (by decide +kernel) (by decide +kernel)) (by decide +kernel) (by decide) (GT_at 679 (by decide +kernel) (by decide +kernel)) (GT_at 19 (by decide +kernel) (by decide +kernel)) rfl rfl) (all_cons (clokS mt_X7_trunkAt (GT_at 659 (by decide +kernel) (by decide +kernel)) (GT_at 44 (by decide +kernel) (by decide +kernel)) (GT_at 661 (by decide +kernel) (by decide +kernel)) (by decide +kernel) (by decide) (GT_at 660 (by decide +kernel) (by decide +kernel))) (all_cons (clokV mt_X7_deskOf rfl (GT_at 700 (by decide +kernel) (by decide +kernel)) (GT_at 44 (by decide +kernel) (by decide +kernel)) (GT_at 703 (by decide +kernel) (by decide +kernel)) (by decide +kernel) (by decide) (GT_at 702 (by decide +kernel) (by decide +kernel)) (GT_at 23 (by decide +kernel) (by decide +kernel)) rfl rfl) (all_cons (clokV mt_X7_placeIn rfl (GT_at 704 (by decide +kernel) (by decide +kernel)) (GT_at 44 (by decide +kernel) (by decide +kernel)) (GT_at 707 (by decide +kernel) (by decide +kernel)) (by decide +kernel) (by decide) (GT_at 706 (by decide +kernel) (by decide +kernel)) (GT_at 24 (by decide +kernel) (by decide +kernel)) rfl rfl) (all_cons (clokV mt_X7_doubt rfl (GT_at 684 (by decide +kernel) (by decide +kernel)) (GT_at 44 (by decide +kernel) (by decide +kernel)) (GT_at 687 (by decide +kernel) (by decide +kernel)) (by decide +kernel) (by decide) (GT_at 686 (by decide +kernel) (by decide +kernel)) (GT_at 20 (by decide +kernel) (by decide +kernel)) rfl rfl) (all_cons (clokV mt_X7_disagreeing rfl (GT_at 688 (by decide +kernel) (by decide +kernel)) (GT_at 44 (by decide +kernel) (by decide +kernel)) (GT_at 691 (by decide +kernel) (by decide +kernel)) (by decide +kernel) (by decide) (GT_at 690 (by decide +kernel) (by decide +kernel)) (GT_at 21 (by decide +kernel) (by decide +kernel)) rfl rfl) (all_nil))))))) ?_ ?_
  · rintro as M - ⟨o, t, w, rfl, hp⟩
    exact Nat.le_of_ble_eq_true rfl
  · rintro L scr as M - ⟨o, t, w, rfl, hp⟩
    exact Runs.mono (fun x M' h _ _ _ e => by cases e; exact h) (ok_X7_trunk L scr o t w M hp)
