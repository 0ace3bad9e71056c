/-! the class's states: what tells, and changes nothing -/
abbrev C_X4_hasCome : Ct := (2, true, fun as M => ∃ (a : Nat) (t : Int), as = [wR a, wI t] ∧ (isSt a ∧ inr t ∧ inr (M (a + 11) 0)), fun as M x M' => ∀ (a : Nat) (t : Int), as = [wR a, wI t] → ((if 0 ≤ t ∧ t < M (a + 11) 0 then 1 else 0) = x ∧ (M) = M'))
def sx_X4_hasCome : Sx := (tb_X4_hasCome, fdX4, kLX4, kIX4, sgX4, ntX4, [], 2)
set_option maxRecDepth 100000 in
set_option maxHeartbeats 1000000 in
theorem ok_X4_hasCome (L : Nat) (scr : Int → Int) (a : Nat) (t : Int) (M : Mem) (hp : isSt a ∧ inr t ∧ inr (M (a + 11) 0)) : Runs sx_X4_hasCome L (xcF scr) (fun x M' => (if 0 ≤ t ∧ t < M (a + 11) 0 then 1 else 0) = x ∧ (M) = M') 0 [wR a, wI t] [] M := by
  obtain ⟨hst, g1, g2⟩ := hp
  have hb := id hst
  unfold isSt at hb
  refine R_iload_n (q := 1) (i := 1) rfl rfl rfl rfl ?_
  refine R_if_lt (q := 4) (tgt := 19) rfl rfl (by decide) (by omega) (fun h1 => ?_) (fun h1 => ?_)
  · refine R_iconst (q := 20) rfl rfl ?_
    refine R_ret rfl (Or.inr ⟨rfl, (by first | exact Or.inl rfl | exact Or.inr rfl | omega)⟩) ?_
    first | exact ⟨if_neg (by omega), rfl⟩ | exact ⟨if_pos (by omega), rfl⟩
  · refine R_iload_n (q := 5) (i := 1) rfl rfl rfl rfl ?_
    refine R_aload_n (q := 6) (i := 0) rfl rfl rfl rfl ?_
    refine R_getR (q := 9) rfl rfl rfl (lay0 hst) rfl (by omega) ?_
    refine R_getI (q := 12) (k1 := 0) rfl rfl rfl (lay_tk (tkI hst)) rfl (by omega) rfl ?_
    refine R_icmp_ge (q := 15) (tgt := 19) rfl rfl (by decide) (by omega) (by omega) (fun h12 => ?_) (fun h12 => ?_)
    · refine R_iconst (q := 20) rfl rfl ?_
      refine R_ret rfl (Or.inr ⟨rfl, (by first | exact Or.inl rfl | exact Or.inr rfl | omega)⟩) ?_
      first | exact ⟨if_neg (by omega), rfl⟩ | exact ⟨if_pos (by omega), rfl⟩
    · refine R_iconst (q := 16) rfl rfl ?_
      refine R_goto (q := 19) (tgt := 20) rfl rfl (by decide) ?_
      refine R_ret rfl (Or.inr ⟨rfl, (by first | exact Or.inl rfl | exact Or.inr rfl | omega)⟩) ?_
      first | exact ⟨if_neg (by omega), rfl⟩ | exact ⟨if_pos (by omega), rfl⟩
set_option maxRecDepth 100000 in
theorem mt_X4_hasCome : MtOK yX4_hasCome cX4_hasCome 2 (some .boolean) 0 C_X4_hasCome := by
  refine mt_of sx_X4_hasCome (by decide +kernel) (Or.inr (Or.inl ⟨rfl, rfl, rfl⟩)) (by decide +kernel) fdX4_ok kLX4_ok kIX4_ok sgX4_ok ntX4_ok
    (all_nil) ?_ ?_
  · rintro as M - ⟨a, t, rfl, hp⟩
    exact Nat.le_of_ble_eq_true rfl
  · rintro L scr as M - ⟨a, t, rfl, hp⟩
    exact Runs.mono (fun x M' h _ _ e => by cases e; exact h) (ok_X4_hasCome L scr a t M hp)
theorem Inv.i7 {f : Int → Int} (I : Inv f) : 0 ≤ f 7 ∧ f 7 ≤ 64 := ⟨I.2.1.2.1, I.2.1.2.2⟩
abbrev C_X4_isWaiting : Ct := (2, true, fun as M => ∃ (a : Nat) (t : Int), as = [wR a, wI t] ∧ (SI M a ∧ inr t), fun as M x M' => ∀ (a : Nat) (t : Int), as = [wR a, wI t] → ((if (0 ≤ t ∧ t < M 200 7) ∧ M 200 (90 + 9 * t) = 0 then 1 else 0) = x ∧ (M) = M'))
def sx_X4_isWaiting : Sx := (tb_X4_isWaiting, fdX4, kLX4, kIX4, sgX4, ntX4, [(39, (4, C_X4_hasCome))], 2)
set_option maxRecDepth 100000 in
set_option maxHeartbeats 1000000 in
theorem ok_X4_isWaiting (L : Nat) (scr : Int → Int) (a : Nat) (t : Int) (M : Mem) (hp : SI M a ∧ inr t) : Runs sx_X4_isWaiting L (xcF scr) (fun x M' => (if (0 ≤ t ∧ t < M 200 7) ∧ M 200 (90 + 9 * t) = 0 then 1 else 0) = x ∧ (M) = M') 0 [wR a, wI t] [] M := by
  obtain ⟨⟨hst, hr, I⟩, g1⟩ := hp
  have hb := id hst
  unfold isSt at hb
  have i7 := I.i7
  have e7 := hr.ca
  by_cases ht : 0 ≤ t ∧ t < M 200 7
  · have ef := hr.fa ht (by omega)
    have fb := (I.2.2.2.2.2.2.1 t ht.1 ht.2).1
    refine R_aload_n (q := 1) (i := 0) rfl rfl rfl rfl ?_
    refine R_iload_n (q := 2) (i := 1) rfl rfl rfl rfl ?_
    refine R_cV1I (q := 5) (ci := 4) (C := C_X4_hasCome) rfl rfl rfl rfl rfl ⟨_, _, rfl, ⟨hst, g1, by omega⟩⟩ rfl (lay0 hst) (by omega) (fun x M' hc => ?_)
    replace hc := hc _ _ rfl
    rw [e7, if_pos ht] at hc
    obtain ⟨rfl, rfl⟩ := hc
    refine R_if_eq (q := 8) (tgt := 24) rfl rfl (by decide) (by omega) (fun h5 => ?_) (fun h5 => ?_)
    · omega
    · refine R_aload_n (q := 9) (i := 0) rfl rfl rfl rfl ?_
      refine R_getR (q := 12) rfl rfl rfl (lay0 hst) rfl (by omega) ?_
      refine R_getR (q := 15) rfl rfl rfl (lay_tk (tkI hst)) rfl (by omega) ?_
      refine R_iload_n (q := 16) (i := 1) rfl rfl rfl rfl ?_
      refine R_iald (q := 17) (v := M 200 (90 + 9 * t)) rfl rfl (lay_ta (tkI hst) rfl) (by omega) (by omega) ef ?_
      refine R_if_ne (q := 20) (tgt := 24) rfl rfl (by decide) (by omega) (fun h17 => ?_) (fun h17 => ?_)
      · refine R_iconst (q := 25) rfl rfl ?_
        refine R_ret rfl (Or.inr ⟨rfl, (by first | exact Or.inl rfl | exact Or.inr rfl | omega)⟩) ?_
        first | exact ⟨if_neg (by omega), rfl⟩ | exact ⟨if_pos (by omega), rfl⟩
      · refine R_iconst (q := 21) rfl rfl ?_
        refine R_goto (q := 24) (tgt := 25) rfl rfl (by decide) ?_
        refine R_ret rfl (Or.inr ⟨rfl, (by first | exact Or.inl rfl | exact Or.inr rfl | omega)⟩) ?_
        first | exact ⟨if_neg (by omega), rfl⟩ | exact ⟨if_pos (by omega), rfl⟩
  · refine R_aload_n (q := 1) (i := 0) rfl rfl rfl rfl ?_
    refine R_iload_n (q := 2) (i := 1) rfl rfl rfl rfl ?_
    refine R_cV1I (q := 5) (ci := 4) (C := C_X4_hasCome) rfl rfl rfl rfl rfl ⟨_, _, rfl, ⟨hst, g1, by omega⟩⟩ rfl (lay0 hst) (by omega) (fun x M' hc => ?_)
    replace hc := hc _ _ rfl
    rw [e7, if_neg ht] at hc
    obtain ⟨rfl, rfl⟩ := hc
    refine R_if_eq (q := 8) (tgt := 24) rfl rfl (by decide) (by omega) (fun h5 => ?_) (fun h5 => ?_)
    · refine R_iconst (q := 25) rfl rfl ?_
      refine R_ret rfl (Or.inr ⟨rfl, (by first | exact Or.inl rfl | exact Or.inr rfl | omega)⟩) ?_
      exact ⟨if_neg (by omega), rfl⟩
    · omega
set_option maxRecDepth 100000 in
theorem mt_X4_isWaiting : MtOK yX4_isWaiting cX4_isWaiting 2 (some .boolean) 1 C_X4_isWaiting := by
  refine mt_of sx_X4_isWaiting (by decide +kernel) (Or.inr (Or.inl ⟨rfl, rfl, rfl⟩)) (by decide +kernel) fdX4_ok kLX4_ok kIX4_ok sgX4_ok ntX4_ok
    (all_cons (clokV mt_X4_hasCome rfl (GT_at 364 (by decide +kernel) (by decide +kernel)) (GT_at 12 (by decide +kernel) (by decide +kernel)) (GT_at 367 (by decide +kernel) (by decide +kernel)) (by decide +kernel) (by decide) (GT_at 365 (by decide +kernel) (by decide +kernel)) (GT_at 366 (by decide +kernel) (by decide +kernel)) rfl rfl) (all_nil)) ?_ ?_
  · rintro as M - ⟨a, t, rfl, hp⟩
    exact Nat.le_of_ble_eq_true rfl
  · rintro L scr as M - ⟨a, t, rfl, hp⟩
    exact Runs.mono (fun x M' h _ _ e => by cases e; exact h) (ok_X4_isWaiting L scr a t M hp)
abbrev C_X4_waitingTrunks : Ct := (1, true, fun as M => ∃ (a : Nat), as = [wR a] ∧ (isSt a), fun as M x M' => ∀ (a : Nat), as = [wR a] → ((M (a + 5) 1 + M (a + 7) 1 + M (a + 9) 1) = x ∧ (M) = M'))
def sx_X4_waitingTrunks : Sx := (tb_X4_waitingTrunks, fdX4, kLX4, kIX4, sgX4, ntX4, [], 1)
set_option maxRecDepth 100000 in
set_option maxHeartbeats 1000000 in
theorem ok_X4_waitingTrunks (L : Nat) (scr : Int → Int) (a : Nat) (M : Mem) (hp : isSt a) : Runs sx_X4_waitingTrunks L (xcF scr) (fun x M' => (M (a + 5) 1 + M (a + 7) 1 + M (a + 9) 1) = x ∧ (M) = M') 0 [wR a, none, none] [] M := by
  have hst := hp
  have hb := id hst
  unfold isSt at hb
  refine R_iconst (q := 1) rfl rfl ?_
  refine R_istore_n (q := 2) (i := 1) rfl rfl rfl rfl ?_
  refine R_iconst (q := 3) rfl rfl ?_
  refine R_istore_n (q := 4) (i := 2) rfl rfl rfl rfl ?_
  refine R_iload_n (q := 5) (i := 2) rfl rfl rfl rfl ?_
  refine R_iconst (q := 6) rfl rfl ?_
  refine R_icmp_ge (q := 9) (tgt := 27) rfl rfl (by decide) (by omega) (by omega) (fun h6 => ?_) (fun h6 => ?_)
  · omega
  · refine R_iload_n (q := 10) (i := 1) rfl rfl rfl rfl ?_
    refine R_aload_n (q := 11) (i := 0) rfl rfl rfl rfl ?_
    refine R_getR (q := 14) rfl rfl rfl (lay0 hst) rfl (by omega) ?_
    refine R_iload_n (q := 15) (i := 2) rfl rfl rfl rfl ?_
    refine R_aald (q := 16) (r2 := a + 5 + 2 * (0 : Int).toNat) rfl rfl (layi hst rfl) (by omega) (by omega) rfl ?_
    refine R_getI (q := 19) (k1 := 1) rfl rfl rfl (lay_dk (dkI hst (by omega))) rfl (by omega) rfl ?_
    refine R_iadd (q := 20) rfl rfl ?_
    refine R_istore_n (q := 21) (i := 1) rfl rfl rfl rfl ?_
    refine R_iinc (q := 24) rfl rfl rfl rfl ?_
    refine R_goto (q := 27) (tgt := 4) rfl rfl (by decide) ?_
    refine R_iload_n (q := 5) (i := 2) rfl rfl rfl rfl ?_
    refine R_iconst (q := 6) rfl rfl ?_
    refine R_icmp_ge (q := 9) (tgt := 27) rfl rfl (by decide) (by omega) (by omega) (fun h6 => ?_) (fun h6 => ?_)
    · omega
    · refine R_iload_n (q := 10) (i := 1) rfl rfl rfl rfl ?_
      refine R_aload_n (q := 11) (i := 0) rfl rfl rfl rfl ?_
      refine R_getR (q := 14) rfl rfl rfl (lay0 hst) rfl (by omega) ?_
      refine R_iload_n (q := 15) (i := 2) rfl rfl rfl rfl ?_
      refine R_aald (q := 16) (r2 := a + 5 + 2 * (1 : Int).toNat) rfl rfl (layi hst rfl) (by omega) (by omega) rfl ?_
      refine R_getI (q := 19) (k1 := 1) rfl rfl rfl (lay_dk (dkI hst (by omega))) rfl (by omega) rfl ?_
      refine R_iadd (q := 20) rfl rfl ?_
      refine R_istore_n (q := 21) (i := 1) rfl rfl rfl rfl ?_
      refine R_iinc (q := 24) rfl rfl rfl rfl ?_
      refine R_goto (q := 27) (tgt := 4) rfl rfl (by decide) ?_
      refine R_iload_n (q := 5) (i := 2) rfl rfl rfl rfl ?_
      refine R_iconst (q := 6) rfl rfl ?_
      refine R_icmp_ge (q := 9) (tgt := 27) rfl rfl (by decide) (by omega) (by omega) (fun h6 => ?_) (fun h6 => ?_)
      · omega
      · refine R_iload_n (q := 10) (i := 1) rfl rfl rfl rfl ?_
        refine R_aload_n (q := 11) (i := 0) rfl rfl rfl rfl ?_
        refine R_getR (q := 14) rfl rfl rfl (lay0 hst) rfl (by omega) ?_
        refine R_iload_n (q := 15) (i := 2) rfl rfl rfl rfl ?_
        refine R_aald (q := 16) (r2 := a + 5 + 2 * (2 : Int).toNat) rfl rfl (layi hst rfl) (by omega) (by omega) rfl ?_
        refine R_getI (q := 19) (k1 := 1) rfl rfl rfl (lay_dk (dkI hst (by omega))) rfl (by omega) rfl ?_
        refine R_iadd (q := 20) rfl rfl ?_
        refine R_istore_n (q := 21) (i := 1) rfl rfl rfl rfl ?_
        refine R_iinc (q := 24) rfl rfl rfl rfl ?_
        refine R_goto (q := 27) (tgt := 4) rfl rfl (by decide) ?_
        refine R_iload_n (q := 5) (i := 2) rfl rfl rfl rfl ?_
        refine R_iconst (q := 6) rfl rfl ?_
        refine R_icmp_ge (q := 9) (tgt := 27) rfl rfl (by decide) (by omega) (by omega) (fun h6 => ?_) (fun h6 => ?_)
        · refine R_iload_n (q := 28) (i := 1) rfl rfl rfl rfl ?_
          refine R_ret rfl (Or.inl rfl) ?_
          exact ⟨by show M (a + 5) 1 + M (a + 7) 1 + M (a + 9) 1 = 0 + M (a + 5) 1 + M (a + 7) 1 + M (a + 9) 1; omega, rfl⟩
        · omega
set_option maxRecDepth 100000 in
theorem mt_X4_waitingTrunks : MtOK yX4_waitingTrunks cX4_waitingTrunks 3 (some .int) 0 C_X4_waitingTrunks := by
  refine mt_of sx_X4_waitingTrunks (by decide +kernel) (Or.inl ⟨rfl, rfl, rfl⟩) (by decide +kernel) fdX4_ok kLX4_ok kIX4_ok sgX4_ok ntX4_ok
    (all_nil) ?_ ?_
  · rintro as M - ⟨a, rfl, hp⟩
    exact Nat.le_of_ble_eq_true rfl
  · rintro L scr as M - ⟨a, rfl, hp⟩
    exact Runs.mono (fun x M' h _ e => by cases e; exact h) (ok_X4_waitingTrunks L scr a M hp)
abbrev C_X4_taken : Ct := (1, true, fun as M => ∃ (a : Nat), as = [wR a] ∧ (isSt a), fun as M x M' => ∀ (a : Nat), as = [wR a] → ((M a 6 + M a 7 + M a 8) = x ∧ (M) = M'))
def sx_X4_taken : Sx := (tb_X4_taken, fdX4, kLX4, kIX4, sgX4, ntX4, [], 1)
set_option maxRecDepth 100000 in
set_option maxHeartbeats 1000000 in
theorem ok_X4_taken (L : Nat) (scr : Int → Int) (a : Nat) (M : Mem) (hp : isSt a) : Runs sx_X4_taken L (xcF scr) (fun x M' => (M a 6 + M a 7 + M a 8) = x ∧ (M) = M') 0 [wR a] [] M := by
  have hst := hp
  have hb := id hst
  unfold isSt at hb
  refine R_aload_n (q := 1) (i := 0) rfl rfl rfl rfl ?_
  refine R_getI (q := 4) (k1 := 6) rfl rfl rfl (lay0 hst) rfl (by omega) rfl ?_
  refine R_aload_n (q := 5) (i := 0) rfl rfl rfl rfl ?_
  refine R_getI (q := 8) (k1 := 7) rfl rfl rfl (lay0 hst) rfl (by omega) rfl ?_
  refine R_iadd (q := 9) rfl rfl ?_
  refine R_aload_n (q := 10) (i := 0) rfl rfl rfl rfl ?_
  refine R_getI (q := 13) (k1 := 8) rfl rfl rfl (lay0 hst) rfl (by omega) rfl ?_
  refine R_iadd (q := 14) rfl rfl ?_
  refine R_ret rfl (Or.inl rfl) ?_
  exact ⟨rfl, rfl⟩
set_option maxRecDepth 100000 in
theorem mt_X4_taken : MtOK yX4_taken cX4_taken 1 (some .int) 0 C_X4_taken := by
  refine mt_of sx_X4_taken (by decide +kernel) (Or.inl ⟨rfl, rfl, rfl⟩) (by decide +kernel) fdX4_ok kLX4_ok kIX4_ok sgX4_ok ntX4_ok
    (all_nil) ?_ ?_
  · rintro as M - ⟨a, rfl, hp⟩
    exact Nat.le_of_ble_eq_true rfl
  · rintro L scr as M - ⟨a, rfl, hp⟩
    exact Runs.mono (fun x M' h _ e => by cases e; exact h) (ok_X4_taken L scr a M hp)
/-- what a desk's search finds, in the row's words -/
theorem plO_D {M : Mem} {a : Nat} {f : Int → Int} (h : RelS M a f) (I : Inv f) {d t x : Int} (hd : 0 ≤ d ∧ d < 3) (hx : plO M (a + 5 + 2 * d.toNat) t x) : x = plD f d t ∧ (x ≠ -6 → dko f t 3 = d ∧ Qv f d x ∧ f (38 + 16 * d + x) = t) := by
  have le := I.le hd.1 hd.2
  have ew := h.wa hd
  rcases hx with ⟨h1, h2, h3, -⟩ | ⟨h1, h2⟩
  · rw [h.qu hd (by omega)] at h3
    have q : Qv f d x := ⟨hd.1, hd.2, h1, by omega⟩
    obtain ⟨z1, z2⟩ := I.at q h3
    refine ⟨?_, fun _ => ⟨z2, q, h3⟩⟩
    rw [z1 d hd.1 hd.2, if_pos rfl]
  · refine ⟨?_, fun z => absurd h1 z⟩
    rw [h1]
    refine (plc_out _ (fun p p0 p1 => ?_)).symm
    have := h2 p p0 (by omega)
    rwa [h.qu hd (by omega)] at this
theorem dk_pre {M : Mem} {a : Nat} {f : Int → Int} (h : RelS M a f) (hst : isSt a) (I : Inv f) {d : Int} (hd : 0 ≤ d ∧ d < 3) : isDk (a + 5 + 2 * d.toNat) ∧ (0 ≤ M (a + 5 + 2 * d.toNat) 1 ∧ M (a + 5 + 2 * d.toNat) 1 ≤ 16) ∧ ∀ p, 0 ≤ p → p < M (a + 5 + 2 * d.toNat) 1 → inr (M (a + 5 + 2 * d.toNat + 1) p) := by
  have le := I.le hd.1 hd.2
  have i7 := I.i7
  rw [h.wa hd]
  refine ⟨dkI hst hd, le, fun p p0 p1 => ?_⟩
  rw [h.qu hd (by omega)]
  have := I.2.2.2.2.1 d p ⟨hd.1, hd.2, p0, p1⟩
  omega
theorem dko_3 {f : Int → Int} {t : Int} (h0 : plD f 0 t = -6) (h1 : plD f 1 t = -6) (h2 : plD f 2 t = -6) : dko f t 3 = -6 := by
  show (if plD f 2 t = -6 then (if plD f 1 t = -6 then (if plD f 0 t = -6 then (-6 : Int) else 0) else 1) else 2) = -6
  rw [if_pos h2, if_pos h1, if_pos h0]
abbrev C_X4_deskOf : Ct := (2, true, fun as M => ∃ (a : Nat) (t : Int), as = [wR a, wI t] ∧ (SI M a ∧ inr t), fun as M x M' => ∀ (a : Nat) (t : Int), as = [wR a, wI t] → ((dko (M 200) t 3) = x ∧ (M) = M'))
def sx_X4_deskOf : Sx := (tb_X4_deskOf, fdX4, kLX4, kIX4, sgX4, ntX4, [(58, (0, C_X0_placeOf))], 1)
set_option maxRecDepth 100000 in
set_option maxHeartbeats 1000000 in
theorem ok_X4_deskOf (L : Nat) (scr : Int → Int) (a : Nat) (t : Int) (M : Mem) (hp : SI M a ∧ inr t) : Runs sx_X4_deskOf L (xcF scr) (fun x M' => (dko (M 200) t 3) = x ∧ (M) = M') 0 [wR a, wI t, none] [] M := by
  obtain ⟨⟨hst, hr, I⟩, g1⟩ := hp
  have hb := id hst
  unfold isSt at hb
  have p0 := dk_pre hr hst I (d := 0) (by omega)
  have p1 := dk_pre hr hst I (d := 1) (by omega)
  have p2 := dk_pre hr hst I (d := 2) (by omega)
  have b16 := fun e h0 h1 => I.le (d := e) h0 h1
  have inx : ∀ (d x : Int), 0 ≤ d ∧ d < 3 → plO M (a + 5 + 2 * d.toNat) t x → -6 ≤ x ∧ x < 16 := by
    intro d x hd hx
    have := hr.wa hd
    have := b16 d hd.1 hd.2
    rcases hx with h | h
    · have := h.1
      have := h.2.1
      omega
    · have := h.1
      omega
  refine R_iconst (q := 1) rfl rfl ?_
  refine R_istore_n (q := 2) (i := 2) rfl rfl rfl rfl ?_
  refine R_iload_n (q := 3) (i := 2) rfl rfl rfl rfl ?_
  refine R_iconst (q := 4) rfl rfl ?_
  refine R_icmp_ge (q := 7) (tgt := 30) rfl rfl (by decide) (by omega) (by omega) (fun h4 => ?_) (fun h4 => ?_)
  · omega
  · refine R_aload_n (q := 8) (i := 0) rfl rfl rfl rfl ?_
    refine R_getR (q := 11) rfl rfl rfl (lay0 hst) rfl (by omega) ?_
    refine R_iload_n (q := 12) (i := 2) rfl rfl rfl rfl ?_
    refine R_aald (q := 13) (r2 := a + 5 + 2 * (0 : Int).toNat) rfl rfl (layi hst rfl) (by omega) (by omega) rfl ?_
    refine R_iload_n (q := 14) (i := 1) rfl rfl rfl rfl ?_
    refine R_cV1I (q := 17) (ci := 0) (C := C_X0_placeOf) rfl rfl rfl rfl rfl ⟨_, _, rfl, ⟨p0.1, p0.2.1, g1, p0.2.2⟩⟩ rfl (lay_dk (dkI hst (by omega))) (by omega) (fun x M' hc => ?_)
    replace hc := hc _ _ rfl
    obtain ⟨hc, rfl⟩ := hc
    have x0 := inx 0 x (by omega) hc
    obtain ⟨c0, c0'⟩ := plO_D hr I (d := 0) (by omega) hc
    refine R_bipush (q := 19) rfl rfl (by decide) ?_
    refine R_icmp_eq (q := 22) (tgt := 24) rfl rfl (by decide) (by omega) (by omega) (fun h19 => ?_) (fun h19 => ?_)
    · refine R_iinc (q := 27) rfl rfl rfl rfl ?_
      refine R_goto (q := 30) (tgt := 2) rfl rfl (by decide) ?_
      refine R_iload_n (q := 3) (i := 2) rfl rfl rfl rfl ?_
      refine R_iconst (q := 4) rfl rfl ?_
      refine R_icmp_ge (q := 7) (tgt := 30) rfl rfl (by decide) (by omega) (by omega) (fun h4 => ?_) (fun h4 => ?_)
      · omega
      · refine R_aload_n (q := 8) (i := 0) rfl rfl rfl rfl ?_
        refine R_getR (q := 11) rfl rfl rfl (lay0 hst) rfl (by omega) ?_
        refine R_iload_n (q := 12) (i := 2) rfl rfl rfl rfl ?_
        refine R_aald (q := 13) (r2 := a + 5 + 2 * (1 : Int).toNat) rfl rfl (layi hst rfl) (by omega) (by omega) rfl ?_
        refine R_iload_n (q := 14) (i := 1) rfl rfl rfl rfl ?_
        refine R_cV1I (q := 17) (ci := 0) (C := C_X0_placeOf) rfl rfl rfl rfl rfl ⟨_, _, rfl, ⟨p1.1, p1.2.1, g1, p1.2.2⟩⟩ rfl (lay_dk (dkI hst (by omega))) (by omega) (fun x M' hc => ?_)
        replace hc := hc _ _ rfl
        obtain ⟨hc, rfl⟩ := hc
        have x1 := inx 1 x (by omega) hc
        obtain ⟨c1, c1'⟩ := plO_D hr I (d := 1) (by omega) hc
        refine R_bipush (q := 19) rfl rfl (by decide) ?_
        refine R_icmp_eq (q := 22) (tgt := 24) rfl rfl (by decide) (by omega) (by omega) (fun h19 => ?_) (fun h19 => ?_)
        · refine R_iinc (q := 27) rfl rfl rfl rfl ?_
          refine R_goto (q := 30) (tgt := 2) rfl rfl (by decide) ?_
          refine R_iload_n (q := 3) (i := 2) rfl rfl rfl rfl ?_
          refine R_iconst (q := 4) rfl rfl ?_
          refine R_icmp_ge (q := 7) (tgt := 30) rfl rfl (by decide) (by omega) (by omega) (fun h4 => ?_) (fun h4 => ?_)
          · omega
          · refine R_aload_n (q := 8) (i := 0) rfl rfl rfl rfl ?_
            refine R_getR (q := 11) rfl rfl rfl (lay0 hst) rfl (by omega) ?_
            refine R_iload_n (q := 12) (i := 2) rfl rfl rfl rfl ?_
            refine R_aald (q := 13) (r2 := a + 5 + 2 * (2 : Int).toNat) rfl rfl (layi hst rfl) (by omega) (by omega) rfl ?_
            refine R_iload_n (q := 14) (i := 1) rfl rfl rfl rfl ?_
            refine R_cV1I (q := 17) (ci := 0) (C := C_X0_placeOf) rfl rfl rfl rfl rfl ⟨_, _, rfl, ⟨p2.1, p2.2.1, g1, p2.2.2⟩⟩ rfl (lay_dk (dkI hst (by omega))) (by omega) (fun x M' hc => ?_)
            replace hc := hc _ _ rfl
            obtain ⟨hc, rfl⟩ := hc
            have x2 := inx 2 x (by omega) hc
            obtain ⟨c2, c2'⟩ := plO_D hr I (d := 2) (by omega) hc
            refine R_bipush (q := 19) rfl rfl (by decide) ?_
            refine R_icmp_eq (q := 22) (tgt := 24) rfl rfl (by decide) (by omega) (by omega) (fun h19 => ?_) (fun h19 => ?_)
            · refine R_iinc (q := 27) rfl rfl rfl rfl ?_
              refine R_goto (q := 30) (tgt := 2) rfl rfl (by decide) ?_
              refine R_iload_n (q := 3) (i := 2) rfl rfl rfl rfl ?_
              refine R_iconst (q := 4) rfl rfl ?_
              refine R_icmp_ge (q := 7) (tgt := 30) rfl rfl (by decide) (by omega) (by omega) (fun h4 => ?_) (fun h4 => ?_)
              · refine R_bipush (q := 32) rfl rfl (by decide) ?_
                refine R_ret rfl (Or.inl rfl) ?_
                first
                | exact ⟨(c0' (by omega)).1, rfl⟩
                | exact ⟨(c1' (by omega)).1, rfl⟩
                | exact ⟨(c2' (by omega)).1, rfl⟩
                | exact ⟨dko_3 (by omega) (by omega) (by omega), rfl⟩
              · omega
            · refine R_iload_n (q := 23) (i := 2) rfl rfl rfl rfl ?_
              refine R_ret rfl (Or.inl rfl) ?_
              first
              | exact ⟨(c0' (by omega)).1, rfl⟩
              | exact ⟨(c1' (by omega)).1, rfl⟩
              | exact ⟨(c2' (by omega)).1, rfl⟩
              | exact ⟨dko_3 (by omega) (by omega) (by omega), rfl⟩
        · refine R_iload_n (q := 23) (i := 2) rfl rfl rfl rfl ?_
          refine R_ret rfl (Or.inl rfl) ?_
          first
          | exact ⟨(c0' (by omega)).1, rfl⟩
          | exact ⟨(c1' (by omega)).1, rfl⟩
          | exact ⟨(c2' (by omega)).1, rfl⟩
          | exact ⟨dko_3 (by omega) (by omega) (by omega), rfl⟩
    · refine R_iload_n (q := 23) (i := 2) rfl rfl rfl rfl ?_
      refine R_ret rfl (Or.inl rfl) ?_
      first
      | exact ⟨(c0' (by omega)).1, rfl⟩
      | exact ⟨(c1' (by omega)).1, rfl⟩
      | exact ⟨(c2' (by omega)).1, rfl⟩
      | exact ⟨dko_3 (by omega) (by omega) (by omega), rfl⟩
set_option maxRecDepth 100000 in
theorem mt_X4_deskOf : MtOK yX4_deskOf cX4_deskOf 3 (some .int) 1 C_X4_deskOf := by
  refine mt_of sx_X4_deskOf (by decide +kernel) (Or.inl ⟨rfl, rfl, rfl⟩) (by decide +kernel) fdX4_ok kLX4_ok kIX4_ok sgX4_ok ntX4_ok
    (all_cons (clokV mt_X0_placeOf rfl (GT_at 391 (by decide +kernel) (by decide +kernel)) (GT_at 13 (by decide +kernel) (by decide +kernel)) (GT_at 394 (by decide +kernel) (by decide +kernel)) (by decide +kernel) (by decide) (GT_at 392 (by decide +kernel) (by decide +kernel)) (GT_at 393 (by decide +kernel) (by decide +kernel)) rfl rfl) (all_nil)) ?_ ?_
  · rintro as M - ⟨a, t, rfl, hp⟩
    exact Nat.le_of_ble_eq_true rfl
  · rintro L scr as M - ⟨a, t, rfl, hp⟩
    exact Runs.mono (fun x M' h _ _ e => by cases e; exact h) (ok_X4_deskOf L scr a t M hp)
abbrev C_X4_placeOf : Ct := (2, true, fun as M => ∃ (a : Nat) (t : Int), as = [wR a, wI t] ∧ (SI M a ∧ inr t), fun as M x M' => ∀ (a : Nat) (t : Int), as = [wR a, wI t] → ((if dko (M 200) t 3 = -6 then -6 else plD (M 200) (dko (M 200) t 3) t) = x ∧ (M) = M'))
def sx_X4_placeOf : Sx := (tb_X4_placeOf, fdX4, kLX4, kIX4, sgX4, ntX4, [(62, (4, C_X4_deskOf)), (58, (0, C_X0_placeOf))], 1)
set_option maxRecDepth 100000 in
set_option maxHeartbeats 1000000 in
theorem ok_X4_placeOf (L : Nat) (scr : Int → Int) (a : Nat) (t : Int) (M : Mem) (hp : SI M a ∧ inr t) : Runs sx_X4_placeOf L (xcF scr) (fun x M' => (if dko (M 200) t 3 = -6 then -6 else plD (M 200) (dko (M 200) t 3) t) = x ∧ (M) = M') 0 [wR a, wI t, none] [] M := by
  obtain ⟨⟨hst, hr, I⟩, g1⟩ := hp
  have hb := id hst
  unfold isSt at hb
  have db := dko_bd (f := M 200) (t := t) 3
  obtain ⟨d, hd⟩ : ∃ d, d = dko (M 200) t 3 := ⟨_, rfl⟩
  rw [← hd] at db ⊢
  by_cases e : d = -6
  · subst e
    refine R_aload_n (q := 1) (i := 0) rfl rfl rfl rfl ?_
    refine R_iload_n (q := 2) (i := 1) rfl rfl rfl rfl ?_
    refine R_cV1I (q := 5) (ci := 4) (C := C_X4_deskOf) rfl rfl rfl rfl rfl ⟨_, _, rfl, ⟨⟨hst, hr, I⟩, g1⟩⟩ rfl (lay0 hst) (by omega) (fun x M' hc => ?_)
    replace hc := hc _ _ rfl
    obtain ⟨hc, rfl⟩ := hc
    rw [← hd] at hc
    subst hc
    refine R_istore_n (q := 6) (i := 2) rfl rfl rfl rfl ?_
    refine R_iload_n (q := 7) (i := 2) rfl rfl rfl rfl ?_
    refine R_bipush (q := 9) rfl rfl (by decide) ?_
    refine R_icmp_ne (q := 12) (tgt := 17) rfl rfl (by decide) (by omega) (by omega) (fun h9 => ?_) (fun h9 => ?_)
    · omega
    · refine R_bipush (q := 14) rfl rfl (by decide) ?_
      refine R_goto (q := 17) (tgt := 27) rfl rfl (by decide) ?_
      refine R_ret rfl (Or.inl rfl) ?_
      exact ⟨if_pos rfl, rfl⟩
  · have hdd : 0 ≤ d ∧ d < 3 := by omega
    have p0 := dk_pre hr hst I (d := d) hdd
    refine R_aload_n (q := 1) (i := 0) rfl rfl rfl rfl ?_
    refine R_iload_n (q := 2) (i := 1) rfl rfl rfl rfl ?_
    refine R_cV1I (q := 5) (ci := 4) (C := C_X4_deskOf) rfl rfl rfl rfl rfl ⟨_, _, rfl, ⟨⟨hst, hr, I⟩, g1⟩⟩ rfl (lay0 hst) (by omega) (fun x M' hc => ?_)
    replace hc := hc _ _ rfl
    obtain ⟨hc, rfl⟩ := hc
    rw [← hd] at hc
    subst hc
    refine R_istore_n (q := 6) (i := 2) rfl rfl rfl rfl ?_
    refine R_iload_n (q := 7) (i := 2) rfl rfl rfl rfl ?_
    refine R_bipush (q := 9) rfl rfl (by decide) ?_
    refine R_icmp_ne (q := 12) (tgt := 17) rfl rfl (by decide) (by omega) (by omega) (fun h9 => ?_) (fun h9 => ?_)
    · refine R_aload_n (q := 18) (i := 0) rfl rfl rfl rfl ?_
      refine R_getR (q := 21) rfl rfl rfl (lay0 hst) rfl (by omega) ?_
      refine R_iload_n (q := 22) (i := 2) rfl rfl rfl rfl ?_
      refine R_aald (q := 23) (r2 := a + 5 + 2 * d.toNat) rfl rfl (layi hst rfl) (by omega) (by omega) rfl ?_
      refine R_iload_n (q := 24) (i := 1) rfl rfl rfl rfl ?_
      refine R_cV1I (q := 27) (ci := 0) (C := C_X0_placeOf) rfl rfl rfl rfl rfl ⟨_, _, rfl, ⟨p0.1, p0.2.1, g1, p0.2.2⟩⟩ rfl (lay_dk (dkI hst hdd)) (by omega) (fun x M' hc => ?_)
      replace hc := hc _ _ rfl
      obtain ⟨hc, rfl⟩ := hc
      obtain ⟨c0, c0'⟩ := plO_D hr I hdd hc
      refine R_ret rfl (Or.inl rfl) ?_
      exact ⟨(if_neg e).trans c0.symm, rfl⟩
    · omega
set_option maxRecDepth 100000 in
theorem mt_X4_placeOf : MtOK yX4_placeOf cX4_placeOf 3 (some .int) 2 C_X4_placeOf := by
  refine mt_of sx_X4_placeOf (by decide +kernel) (Or.inl ⟨rfl, rfl, rfl⟩) (by decide +kernel) fdX4_ok kLX4_ok kIX4_ok sgX4_ok ntX4_ok
    (all_cons (clokV mt_X4_deskOf rfl (GT_at 464 (by decide +kernel) (by decide +kernel)) (GT_at 12 (by decide +kernel) (by decide +kernel)) (GT_at 390 (by decide +kernel) (by decide +kernel)) (by decide +kernel) (by decide) (GT_at 388 (by decide +kernel) (by decide +kernel)) (GT_at 389 (by decide +kernel) (by decide +kernel)) rfl rfl) (all_cons (clokV mt_X0_placeOf rfl (GT_at 391 (by decide +kernel) (by decide +kernel)) (GT_at 13 (by decide +kernel) (by decide +kernel)) (GT_at 394 (by decide +kernel) (by decide +kernel)) (by decide +kernel) (by decide) (GT_at 392 (by decide +kernel) (by decide +kernel)) (GT_at 393 (by decide +kernel) (by decide +kernel)) rfl rfl) (all_nil))) ?_ ?_
  · rintro as M - ⟨a, t, rfl, hp⟩
    exact Nat.le_of_ble_eq_true rfl
  · rintro L scr as M - ⟨a, t, rfl, hp⟩
    exact Runs.mono (fun x M' h _ _ e => by cases e; exact h) (ok_X4_placeOf L scr a t M hp)
