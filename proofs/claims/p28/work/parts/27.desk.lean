/-! the class's desks: an object at o, its queue at o + 1 -/
def isDk (o : Nat) : Prop := ∃ a d, isSt a ∧ d < 3 ∧ o = a + 5 + 2 * d
def dkF (o : Nat) : Nat → Option Nat := fun k => match k with | 0 => some (o + 1) | _ => none
theorem isDk.bd {o : Nat} (h : isDk o) : 15 ≤ o ∧ o + 1 < 191 := by
  obtain ⟨a, d, ⟨h1, h2, h3⟩, h4, rfl⟩ := h
  omega
theorem lay_dk {L o : Nat} (h : isDk o) : LAY L o = .inl (0, dkF o) := by
  obtain ⟨a, d, h1, h4, rfl⟩ := h
  have : d = 0 ∨ d = 1 ∨ d = 2 := by omega
  rcases this with rfl | rfl | rfl
  · rw [show a + 5 + 2 * 0 = a + 5 from rfl, layi h1 rfl]
    refine congrArg (fun z => Sum.inl (0, z)) (funext fun k => ?_)
    match k with
    | 0 => rfl
    | _ + 1 => rfl
  · rw [show a + 5 + 2 * 1 = a + 7 from rfl, layi h1 rfl]
    refine congrArg (fun z => Sum.inl (0, z)) (funext fun k => ?_)
    match k with
    | 0 => rfl
    | _ + 1 => rfl
  · rw [show a + 5 + 2 * 2 = a + 9 from rfl, layi h1 rfl]
    refine congrArg (fun z => Sum.inl (0, z)) (funext fun k => ?_)
    match k with
    | 0 => rfl
    | _ + 1 => rfl
theorem lay_dq {L o : Nat} (h : isDk o) : LAY L (o + 1) = .inr (.inl (0, 16)) := by
  obtain ⟨a, d, h1, h4, rfl⟩ := h
  have : d = 0 ∨ d = 1 ∨ d = 2 := by omega
  rcases this with rfl | rfl | rfl
  · rw [show a + 5 + 2 * 0 + 1 = a + 6 from rfl, layi h1 rfl]; rfl
  · rw [show a + 5 + 2 * 1 + 1 = a + 8 from rfl, layi h1 rfl]; rfl
  · rw [show a + 5 + 2 * 2 + 1 = a + 10 from rfl, layi h1 rfl]; rfl
/-- the trunk at the place p leaves the desk's queue: up to the place k, and the whole -/
def dsP (M : Mem) (o : Nat) (p k : Int) : Mem := fun r j => if r = o ∧ j = 1 then M o 1 - 1 else if r = o + 1 ∧ p ≤ j ∧ j < k then M (o + 1) (j + 1) else M r j
def dsM (M : Mem) (o : Nat) (p : Int) : Mem := dsP M o p (M o 1 - 1)
theorem dsP_0 {M : Mem} {o : Nat} {p : Int} : upM M o 1 (M o 1 - 1) = dsP M o p p := by
  funext r j
  unfold dsP upM
  by_cases h : r = o ∧ j = 1
  · rw [if_pos h, if_pos h]
  · rw [if_neg h, if_neg h, if_neg (by omega)]
theorem dsP_s {M : Mem} {o : Nat} {p k : Int} (h : p ≤ k) : upM (dsP M o p k) (o + 1) k (M (o + 1) (k + 1)) = dsP M o p (k + 1) := by
  funext r j
  unfold dsP upM
  dsimp only
  by_cases h : r = o + 1 ∧ j = k
  · obtain ⟨rfl, rfl⟩ := h
    rw [if_pos ⟨rfl, rfl⟩, if_neg (by omega), if_pos ⟨rfl, by omega, by omega⟩]
  · rw [if_neg h]
    by_cases h2 : r = o ∧ j = 1
    · rw [if_pos h2, if_pos h2]
    · rw [if_neg h2, if_neg h2]
      by_cases h3 : r = o + 1 ∧ p ≤ j ∧ j < k
      · rw [if_pos h3, if_pos (by omega)]
      · rw [if_neg h3, if_neg (by omega)]
theorem dsP_w {M : Mem} {o : Nat} {p k : Int} : dsP M o p k o 1 = M o 1 - 1 := if_pos ⟨rfl, rfl⟩
theorem dsP_q {M : Mem} {o : Nat} {p k j : Int} (h : k ≤ j) : dsP M o p k (o + 1) j = M (o + 1) j := by
  unfold dsP
  rw [if_neg (by omega), if_neg (by omega)]
abbrev C_X0_append : Ct := (2, false, fun as M => ∃ (o : Nat) (t : Int), as = [wR o, wI t] ∧ (isDk o ∧ 0 ≤ M o 1 ∧ M o 1 < 16), fun as M x M' => ∀ (o : Nat) (t : Int), as = [wR o, wI t] → ((upM (upM M (o + 1) (M o 1) t) o 1 (M o 1 + 1)) = M'))
def sx_X0_append : Sx := (tb_X0_append, fdX0, kLX0, kIX0, sgX0, ntX0, [], 0)
set_option maxRecDepth 100000 in
set_option maxHeartbeats 1000000 in
theorem ok_X0_append (L : Nat) (scr : Int → Int) (o : Nat) (t : Int) (M : Mem) (hp : isDk o ∧ 0 ≤ M o 1 ∧ M o 1 < 16) : Runs sx_X0_append L (xcF scr) (fun x M' => (upM (upM M (o + 1) (M o 1) t) o 1 (M o 1 + 1)) = M') 0 [wR o, wI t] [] M := by
  obtain ⟨hd, h1, h2⟩ := hp
  have hb := hd.bd
  have e : upM M (o + 1) (M o 1) t o 1 = M o 1 := by rw [upM_r (by omega)]
  refine R_aload_n (q := 1) (i := 0) rfl rfl rfl rfl ?_
  refine R_getI (q := 4) (k1 := 1) rfl rfl rfl (lay_dk hd) rfl (by omega) rfl ?_
  refine R_bipush (q := 6) rfl rfl (by decide) ?_
  refine R_icmp_ge (q := 9) (tgt := 29) rfl rfl (by decide) (by omega) (by omega) (fun h6 => ?_) (fun h6 => ?_)
  · omega
  · refine R_aload_n (q := 10) (i := 0) rfl rfl rfl rfl ?_
    refine R_getR (q := 13) rfl rfl rfl (lay_dk hd) rfl (by omega) ?_
    refine R_aload_n (q := 14) (i := 0) rfl rfl rfl rfl ?_
    refine R_getI (q := 17) (k1 := 1) rfl rfl rfl (lay_dk hd) rfl (by omega) rfl ?_
    refine R_iload_n (q := 18) (i := 1) rfl rfl rfl rfl ?_
    refine R_iast (q := 19) rfl rfl (lay_dq hd) (by omega) (by omega) rfl ?_
    refine R_aload_n (q := 20) (i := 0) rfl rfl rfl rfl ?_
    refine R_dup (q := 21) rfl rfl rfl ?_
    refine R_getI (q := 24) (k1 := 1) rfl rfl rfl (lay_dk hd) rfl (by omega) rfl ?_
    refine R_iconst (q := 25) rfl rfl ?_
    refine R_iadd (q := 26) rfl rfl ?_
    refine R_putI (q := 29) (k1 := 1) rfl rfl rfl (lay_dk hd) rfl (by omega) rfl rfl rfl rfl ?_
    refine R_vret rfl rfl ?_
    rw [e]
set_option maxRecDepth 100000 in
theorem mt_X0_append : MtOK yX0_append cX0_append 2 none 0 C_X0_append := by
  refine mt_of sx_X0_append (by decide +kernel) (Or.inr (Or.inr ⟨rfl, rfl, rfl⟩)) (by decide +kernel) fdX0_ok kLX0_ok kIX0_ok sgX0_ok ntX0_ok
    (all_nil) ?_ ?_
  · rintro as M - ⟨o, t, rfl, hp⟩
    exact Nat.le_of_ble_eq_true rfl
  · rintro L scr as M - ⟨o, t, rfl, hp⟩
    exact Runs.mono (fun x M' h _ _ e => by cases e; exact h) (ok_X0_append L scr o t M hp)
abbrev plO (M : Mem) (o : Nat) (t x : Int) : Prop := (0 ≤ x ∧ x < M o 1 ∧ M (o + 1) x = t ∧ ∀ p, 0 ≤ p → p < x → M (o + 1) p ≠ t) ∨ (x = -6 ∧ ∀ p, 0 ≤ p → p < M o 1 → M (o + 1) p ≠ t)
abbrev C_X0_placeOf : Ct := (2, true, fun as M => ∃ (o : Nat) (t : Int), as = [wR o, wI t] ∧ (isDk o ∧ (0 ≤ M o 1 ∧ M o 1 ≤ 16) ∧ inr t ∧ ∀ p, 0 ≤ p → p < M o 1 → inr (M (o + 1) p)), fun as M x M' => ∀ (o : Nat) (t : Int), as = [wR o, wI t] → (plO M o t x ∧ M = M'))
def sx_X0_placeOf : Sx := (tb_X0_placeOf, fdX0, kLX0, kIX0, sgX0, ntX0, [], 1)
set_option maxRecDepth 100000 in
set_option maxHeartbeats 1000000 in
theorem ok_X0_placeOf (L : Nat) (scr : Int → Int) (o : Nat) (t : Int) (M : Mem) (hp : isDk o ∧ (0 ≤ M o 1 ∧ M o 1 ≤ 16) ∧ inr t ∧ ∀ p, 0 ≤ p → p < M o 1 → inr (M (o + 1) p)) : Runs sx_X0_placeOf L (xcF scr) (fun x M' => plO M o t x ∧ M = M') 0 [wR o, wI t, none] [] M := by
  obtain ⟨hd, h1, h2, h3⟩ := hp
  have hb := hd.bd
  have L1 : ∀ (n : Nat) (i : Int), 0 ≤ i → i + n = M o 1 → (∀ p, 0 ≤ p → p < i → M (o + 1) p ≠ t) → Runs sx_X0_placeOf L (xcF scr) (fun x M' => plO M o t x ∧ M = M') 2 [wR o, wI t, wI i] [] M := by
    intro n
    induction n with
    | zero =>
      intro i h0 hi hq
      refine R_iload_n (q := 3) (i := 2) rfl rfl rfl rfl ?_
      refine R_aload_n (q := 4) (i := 0) rfl rfl rfl rfl ?_
      refine R_getI (q := 7) (k1 := 1) rfl rfl rfl (lay_dk hd) rfl (by omega) rfl ?_
      refine R_icmp_ge (q := 10) (tgt := 28) rfl rfl (by decide) (by omega) (by omega) (fun h7 => ?_) (fun h7 => ?_)
      · refine R_bipush (q := 30) rfl rfl (by decide) ?_
        refine R_ret rfl (Or.inl rfl) ?_
        exact ⟨Or.inr ⟨rfl, fun p a b => hq p a (by omega)⟩, rfl⟩
      · omega
    | succ n ih =>
      intro i h0 hi hq
      have := h3 i h0 (by omega)
      refine R_iload_n (q := 3) (i := 2) rfl rfl rfl rfl ?_
      refine R_aload_n (q := 4) (i := 0) rfl rfl rfl rfl ?_
      refine R_getI (q := 7) (k1 := 1) rfl rfl rfl (lay_dk hd) rfl (by omega) rfl ?_
      refine R_icmp_ge (q := 10) (tgt := 28) rfl rfl (by decide) (by omega) (by omega) (fun h7 => ?_) (fun h7 => ?_)
      · omega
      · refine R_aload_n (q := 11) (i := 0) rfl rfl rfl rfl ?_
        refine R_getR (q := 14) rfl rfl rfl (lay_dk hd) rfl (by omega) ?_
        refine R_iload_n (q := 15) (i := 2) rfl rfl rfl rfl ?_
        refine R_iald (q := 16) rfl rfl (lay_dq hd) (by omega) (by omega) rfl ?_
        refine R_iload_n (q := 17) (i := 1) rfl rfl rfl rfl ?_
        refine R_icmp_ne (q := 20) (tgt := 22) rfl rfl (by decide) (by omega) (by omega) (fun h17 => ?_) (fun h17 => ?_)
        · refine R_iinc (q := 25) rfl rfl rfl rfl ?_
          refine R_goto (q := 28) (tgt := 2) rfl rfl (by decide) ?_
          exact ih (i + 1) (by omega) (by omega) (fun p a b => by
            by_cases e : p = i
            · subst e
              omega
            · exact hq p a (by omega))
        · refine R_iload_n (q := 21) (i := 2) rfl rfl rfl rfl ?_
          refine R_ret rfl (Or.inl rfl) ?_
          exact ⟨Or.inl ⟨h0, by omega, by omega, hq⟩, rfl⟩
  refine R_iconst (q := 1) rfl rfl ?_
  refine R_istore_n (q := 2) (i := 2) rfl rfl rfl rfl ?_
  exact L1 (M o 1).toNat 0 (by omega) (by omega) (fun p a b => by omega)
set_option maxRecDepth 100000 in
theorem mt_X0_placeOf : MtOK yX0_placeOf cX0_placeOf 3 (some .int) 0 C_X0_placeOf := by
  refine mt_of sx_X0_placeOf (by decide +kernel) (Or.inl ⟨rfl, rfl, rfl⟩) (by decide +kernel) fdX0_ok kLX0_ok kIX0_ok sgX0_ok ntX0_ok
    (all_nil) ?_ ?_
  · rintro as M - ⟨o, t, rfl, hp⟩
    exact Nat.le_of_ble_eq_true rfl
  · rintro L scr as M - ⟨o, t, rfl, hp⟩
    exact Runs.mono (fun x M' h _ _ e => by cases e; exact h) (ok_X0_placeOf L scr o t M hp)
abbrev C_X0_dismiss : Ct := (2, false, fun as M => ∃ (o : Nat) (t : Int), as = [wR o, wI t] ∧ (isDk o ∧ (0 ≤ M o 1 ∧ M o 1 ≤ 16) ∧ inr t ∧ (∀ p, 0 ≤ p → p < M o 1 → inr (M (o + 1) p)) ∧ ∃ p, 0 ≤ p ∧ p < M o 1 ∧ M (o + 1) p = t), fun as M x M' => ∀ (o : Nat) (t : Int), as = [wR o, wI t] → (∃ p, (0 ≤ p ∧ p < M o 1 ∧ M (o + 1) p = t ∧ ∀ p', 0 ≤ p' → p' < p → M (o + 1) p' ≠ t) ∧ M' = dsM M o p))
def sx_X0_dismiss : Sx := (tb_X0_dismiss, fdX0, kLX0, kIX0, sgX0, ntX0, [(22, (0, C_X0_placeOf))], 0)
set_option maxRecDepth 100000 in
set_option maxHeartbeats 1000000 in
theorem ok_X0_dismiss (L : Nat) (scr : Int → Int) (o : Nat) (t : Int) (M : Mem) (hp : isDk o ∧ (0 ≤ M o 1 ∧ M o 1 ≤ 16) ∧ inr t ∧ (∀ p, 0 ≤ p → p < M o 1 → inr (M (o + 1) p)) ∧ ∃ p, 0 ≤ p ∧ p < M o 1 ∧ M (o + 1) p = t) : Runs sx_X0_dismiss L (xcF scr) (fun x M' => ∃ p, (0 ≤ p ∧ p < M o 1 ∧ M (o + 1) p = t ∧ ∀ p', 0 ≤ p' → p' < p → M (o + 1) p' ≠ t) ∧ M' = dsM M o p) 0 [wR o, wI t, none, none] [] M := by
  obtain ⟨hd, h1, h2, h3, p0, h4, h5, h6⟩ := hp
  have hb := hd.bd
  have L1 : ∀ (p : Int), (0 ≤ p ∧ p < M o 1 ∧ M (o + 1) p = t ∧ ∀ p', 0 ≤ p' → p' < p → M (o + 1) p' ≠ t) → ∀ (n : Nat) (k : Int), p ≤ k → k + n = M o 1 - 1 → Runs sx_X0_dismiss L (xcF scr) (fun x M' => ∃ p, (0 ≤ p ∧ p < M o 1 ∧ M (o + 1) p = t ∧ ∀ p', 0 ≤ p' → p' < p → M (o + 1) p' ≠ t) ∧ M' = dsM M o p) 25 [wR o, wI t, wI p, wI k] [] (dsP M o p k) := by
    intro p hp n
    induction n with
    | zero =>
      intro k h0 hk
      have w := dsP_w (M := M) (o := o) (p := p) (k := k)
      refine R_iload_n (q := 26) (i := 3) rfl rfl rfl rfl ?_
      refine R_aload_n (q := 27) (i := 0) rfl rfl rfl rfl ?_
      refine R_getI (q := 30) (k1 := 1) rfl rfl rfl (lay_dk hd) rfl (by omega) rfl ?_
      refine R_icmp_ge (q := 33) (tgt := 53) rfl rfl (by decide) (by omega) (by omega) (fun h30 => ?_) (fun h30 => ?_)
      · refine R_vret rfl rfl ?_
        refine ⟨p, hp, ?_⟩
        unfold dsM
        rw [show k = M o 1 - 1 by omega]
      · omega
    | succ n ih =>
      intro k h0 hk
      have w := dsP_w (M := M) (o := o) (p := p) (k := k)
      refine R_iload_n (q := 26) (i := 3) rfl rfl rfl rfl ?_
      refine R_aload_n (q := 27) (i := 0) rfl rfl rfl rfl ?_
      refine R_getI (q := 30) (k1 := 1) rfl rfl rfl (lay_dk hd) rfl (by omega) rfl ?_
      refine R_icmp_ge (q := 33) (tgt := 53) rfl rfl (by decide) (by omega) (by omega) (fun h30 => ?_) (fun h30 => ?_)
      · omega
      · refine R_aload_n (q := 34) (i := 0) rfl rfl rfl rfl ?_
        refine R_getR (q := 37) rfl rfl rfl (lay_dk hd) rfl (by omega) ?_
        refine R_iload_n (q := 38) (i := 3) rfl rfl rfl rfl ?_
        refine R_aload_n (q := 39) (i := 0) rfl rfl rfl rfl ?_
        refine R_getR (q := 42) rfl rfl rfl (lay_dk hd) rfl (by omega) ?_
        refine R_iload_n (q := 43) (i := 3) rfl rfl rfl rfl ?_
        refine R_iconst (q := 44) rfl rfl ?_
        refine R_iadd (q := 45) rfl rfl ?_
        refine R_iald (q := 46) (v := M (o + 1) (k + 1)) rfl rfl (lay_dq hd) (by omega) (by omega) (dsP_q (by omega)) ?_
        refine R_iast (q := 47) (M2 := dsP M o p (k + 1)) rfl rfl (lay_dq hd) (by omega) (by omega) (dsP_s h0) ?_
        refine R_iinc (q := 50) rfl rfl rfl rfl ?_
        refine R_goto (q := 53) (tgt := 25) rfl rfl (by decide) ?_
        exact ih (k + 1) (by omega) (by omega)
  refine R_aload_n (q := 1) (i := 0) rfl rfl rfl rfl ?_
  refine R_iload_n (q := 2) (i := 1) rfl rfl rfl rfl ?_
  refine R_cV1I (q := 5) (ci := 0) (C := C_X0_placeOf) rfl rfl rfl rfl rfl ⟨_, _, rfl, ⟨hd, h1, h2, h3⟩⟩ rfl (lay_dk hd) (by omega) (fun x M' hc => ?_)
  replace hc := hc _ _ rfl
  obtain ⟨hc, rfl⟩ := hc
  have hx : 0 ≤ x ∧ x < M o 1 ∧ M (o + 1) x = t ∧ ∀ p, 0 ≤ p → p < x → M (o + 1) p ≠ t := by
    rcases hc with hc | ⟨_, hc⟩
    · exact hc
    · exact absurd h6 (hc p0 h4 h5)
  refine R_istore_n (q := 6) (i := 2) rfl rfl rfl rfl ?_
  refine R_iload_n (q := 7) (i := 2) rfl rfl rfl rfl ?_
  refine R_bipush (q := 9) rfl rfl (by decide) ?_
  refine R_icmp_ne (q := 12) (tgt := 13) rfl rfl (by decide) (by omega) (by omega) (fun h9 => ?_) (fun h9 => ?_)
  · refine R_aload_n (q := 14) (i := 0) rfl rfl rfl rfl ?_
    refine R_dup (q := 15) rfl rfl rfl ?_
    refine R_getI (q := 18) (k1 := 1) rfl rfl rfl (lay_dk hd) rfl (by omega) rfl ?_
    refine R_iconst (q := 19) rfl rfl ?_
    refine R_isub (q := 20) rfl rfl ?_
    refine R_putI (q := 23) (k1 := 1) (M2 := dsP M o x x) rfl rfl rfl (lay_dk hd) rfl (by omega) rfl rfl rfl dsP_0 ?_
    refine R_iload_n (q := 24) (i := 2) rfl rfl rfl rfl ?_
    refine R_istore_n (q := 25) (i := 3) rfl rfl rfl rfl ?_
    exact L1 x hx (M o 1 - 1 - x).toNat x (by omega) (by omega)
  · omega
set_option maxRecDepth 100000 in
theorem mt_X0_dismiss : MtOK yX0_dismiss cX0_dismiss 4 none 1 C_X0_dismiss := by
  refine mt_of sx_X0_dismiss (by decide +kernel) (Or.inr (Or.inr ⟨rfl, rfl, rfl⟩)) (by decide +kernel) fdX0_ok kLX0_ok kIX0_ok sgX0_ok ntX0_ok
    (all_cons (clokV mt_X0_placeOf rfl (GT_at 399 (by decide +kernel) (by decide +kernel)) (GT_at 13 (by decide +kernel) (by decide +kernel)) (GT_at 394 (by decide +kernel) (by decide +kernel)) (by decide +kernel) (by decide) (GT_at 392 (by decide +kernel) (by decide +kernel)) (GT_at 393 (by decide +kernel) (by decide +kernel)) rfl rfl) (all_nil)) ?_ ?_
  · rintro as M - ⟨o, t, rfl, hp⟩
    exact Nat.le_of_ble_eq_true rfl
  · rintro L scr as M - ⟨o, t, rfl, hp⟩
    exact Runs.mono (fun x M' h _ _ e => by cases e; exact h) (ok_X0_dismiss L scr o t M hp)
/-- a desk's numbers and queue -/
def cpD (M : Mem) (o2 o : Nat) : Mem := fun r k => if r = o ∧ 1 ≤ k ∧ k ≤ 4 then M o2 k else if r = o + 1 ∧ 0 ≤ k ∧ k < 16 then M (o2 + 1) k else M r k
abbrev C_X0_copyFrom : Ct := (2, false, fun as M => ∃ (o : Nat) (o2 : Nat), as = [wR o, wR o2] ∧ (isDk o ∧ isDk o2 ∧ o + 1 < o2 ∨ isDk o ∧ isDk o2 ∧ o2 + 1 < o), fun as M x M' => ∀ (o : Nat) (o2 : Nat), as = [wR o, wR o2] → ((cpD M o2 o) = M'))
def sx_X0_copyFrom : Sx := (tb_X0_copyFrom, fdX0, kLX0, kIX0, sgX0, ntX0, [], 0)
set_option maxRecDepth 100000 in
set_option maxHeartbeats 1000000 in
theorem ok_X0_copyFrom (L : Nat) (scr : Int → Int) (o : Nat) (o2 : Nat) (M : Mem) (hp : isDk o ∧ isDk o2 ∧ o + 1 < o2 ∨ isDk o ∧ isDk o2 ∧ o2 + 1 < o) : Runs sx_X0_copyFrom L (xcF scr) (fun x M' => (cpD M o2 o) = M') 0 [wR o, wR o2] [] M := by
  have hd : isDk o := by rcases hp with h | h <;> exact h.1
  have hd2 : isDk o2 := by rcases hp with h | h <;> exact h.2.1
  have hne : o + 1 < o2 ∨ o2 + 1 < o := by omega
  have hb := hd.bd
  have hb2 := hd2.bd
  have e1 : ∀ k : Int, cpM M (o2 + 1) 0 (o + 1) 0 16 o2 k = M o2 k := fun k => congrFun (cpM_ne o2 (by omega)) k
  refine R_aload_n (q := 1) (i := 1) rfl rfl rfl rfl ?_
  refine R_getR (q := 4) rfl rfl rfl (lay_dk hd2) rfl (by omega) ?_
  refine R_iconst (q := 5) rfl rfl ?_
  refine R_aload_n (q := 6) (i := 0) rfl rfl rfl rfl ?_
  refine R_getR (q := 9) rfl rfl rfl (lay_dk hd) rfl (by omega) ?_
  refine R_iconst (q := 10) rfl rfl ?_
  refine R_bipush (q := 12) rfl rfl (by decide) ?_
  refine R_copy (q := 15) rfl rfl rfl (lay_dq hd2) (lay_dq hd) (by omega) (by omega) rfl rfl ?_
  refine R_aload_n (q := 16) (i := 0) rfl rfl rfl rfl ?_
  refine R_aload_n (q := 17) (i := 1) rfl rfl rfl rfl ?_
  refine R_getI (q := 20) (k1 := 1) rfl rfl rfl (lay_dk hd2) rfl (by omega) rfl ?_
  refine R_putI (q := 23) (k1 := 1) rfl rfl rfl (lay_dk hd) rfl (by omega) rfl rfl rfl rfl ?_
  refine R_aload_n (q := 24) (i := 0) rfl rfl rfl rfl ?_
  refine R_aload_n (q := 25) (i := 1) rfl rfl rfl rfl ?_
  refine R_getI (q := 28) (k1 := 2) rfl rfl rfl (lay_dk hd2) rfl (by omega) rfl ?_
  refine R_putI (q := 31) (k1 := 2) rfl rfl rfl (lay_dk hd) rfl (by omega) rfl rfl rfl rfl ?_
  refine R_aload_n (q := 32) (i := 0) rfl rfl rfl rfl ?_
  refine R_aload_n (q := 33) (i := 1) rfl rfl rfl rfl ?_
  refine R_getI (q := 36) (k1 := 3) rfl rfl rfl (lay_dk hd2) rfl (by omega) rfl ?_
  refine R_putI (q := 39) (k1 := 3) rfl rfl rfl (lay_dk hd) rfl (by omega) rfl rfl rfl rfl ?_
  refine R_aload_n (q := 40) (i := 0) rfl rfl rfl rfl ?_
  refine R_aload_n (q := 41) (i := 1) rfl rfl rfl rfl ?_
  refine R_getI (q := 44) (k1 := 4) rfl rfl rfl (lay_dk hd2) rfl (by omega) rfl ?_
  refine R_putI (q := 47) (k1 := 4) rfl rfl rfl (lay_dk hd) rfl (by omega) rfl rfl rfl rfl ?_
  refine R_vret rfl rfl ?_
  simp only [upM_r (show o2 ≠ o by omega), e1]
  funext r k
  unfold cpD upM cpM
  by_cases h1 : r = o ∧ 1 ≤ k ∧ k ≤ 4
  · have : k = 1 ∨ k = 2 ∨ k = 3 ∨ k = 4 := by omega
    rcases this with rfl | rfl | rfl | rfl <;> simp [h1.1]
  · by_cases h2 : r = o + 1 ∧ 0 ≤ k ∧ k < 16
    · rw [if_neg h1, if_pos h2, if_neg (by omega), if_neg (by omega), if_neg (by omega), if_neg (by omega), if_pos (by omega)]
      congr 1
      omega
    · rw [if_neg h1, if_neg h2, if_neg (by omega), if_neg (by omega), if_neg (by omega), if_neg (by omega), if_neg (by omega)]
set_option maxRecDepth 100000 in
theorem mt_X0_copyFrom : MtOK yX0_copyFrom cX0_copyFrom 2 none 0 C_X0_copyFrom := by
  refine mt_of sx_X0_copyFrom (by decide +kernel) (Or.inr (Or.inr ⟨rfl, rfl, rfl⟩)) (by decide +kernel) fdX0_ok kLX0_ok kIX0_ok sgX0_ok ntX0_ok
    (all_nil) ?_ ?_
  · rintro as M - ⟨o, o2, rfl, hp⟩
    exact Nat.le_of_ble_eq_true rfl
  · rintro L scr as M - ⟨o, o2, rfl, hp⟩
    exact Runs.mono (fun x M' h _ _ e => by cases e; exact h) (ok_X0_copyFrom L scr o o2 M hp)
