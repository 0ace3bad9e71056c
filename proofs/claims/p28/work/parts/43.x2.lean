theorem pv_w {p : Int} (h : 15 ≤ p ∧ p < 86) : Pv p := by unfold Pv; omega
abbrev C_X6_weight : Ct := (3, true, fun as M => ∃ (o : Nat) (s : Int) (v : Int), as = [wR o, wI s, wI v] ∧ (o = 3 ∧ GI M ∧ inr s ∧ inr v), fun as M x M' => ∀ (o : Nat) (s : Int) (v : Int), as = [wR o, wI s, wI v] → (Bo C_X7_weight [wR 11, wI s, wI v] M M' x))
def sx_X6_weight : Sx := (tb_X6_weight, fdX6, kLX6, kIX6, sgX6, ntX6, [(41, (9, C_X6_isWithin)), (52, (1, C_X1_keep))], 1)
set_option maxRecDepth 100000 in
set_option maxHeartbeats 1000000 in
theorem ok_X6_weight (L : Nat) (scr : Int → Int) (o : Nat) (s : Int) (v : Int) (M : Mem) (hp : o = 3 ∧ GI M ∧ inr s ∧ inr v) : Runs sx_X6_weight L (xcF scr) (fun x M' => Bo C_X7_weight [wR 11, wI s, wI v] M M' x) 0 [wR o, wI s, wI v, none] [] M := by
  obtain ⟨rfl, g, h1, h2⟩ := hp
  have sz := g.sz
  have cm := g.cm
  refine R_iload_n (q := 1) (i := 1) rfl rfl rfl rfl ?_
  refine R_iconst (q := 2) rfl rfl ?_
  refine R_iconst (q := 3) rfl rfl ?_
  refine R_cS3I (q := 6) (ci := 9) (C := C_X6_isWithin) rfl rfl rfl rfl rfl ⟨_, _, _, rfl, (by first | trivial | assumption | omega)⟩ rfl rfl (fun x M' hc => ?_)
  replace hc := hc _ _ _ rfl
  obtain ⟨w3, rfl⟩ := hc
  refine R_if_ne (q := 9) (tgt := 11) rfl rfl (by decide) (by omega) (fun h6 => ?_) (fun h6 => ?_)
  · refine R_iload_n (q := 12) (i := 2) rfl rfl rfl rfl ?_
    refine R_iconst (q := 13) rfl rfl ?_
    refine R_bipush (q := 15) rfl rfl (by decide) ?_
    refine R_cS3I (q := 18) (ci := 9) (C := C_X6_isWithin) rfl rfl rfl rfl rfl ⟨_, _, _, rfl, (by first | trivial | assumption | omega)⟩ rfl rfl (fun x M' hc => ?_)
    replace hc := hc _ _ _ rfl
    obtain ⟨w15, rfl⟩ := hc
    refine R_if_ne (q := 21) (tgt := 24) rfl rfl (by decide) (by omega) (fun h18 => ?_) (fun h18 => ?_)
    · refine R_aload_n (q := 25) (i := 0) rfl rfl rfl rfl ?_
      refine R_getR (q := 28) rfl rfl rfl rfl rfl (by omega) ?_
      refine R_aload_n (q := 29) (i := 0) rfl rfl rfl rfl ?_
      refine R_getR (q := 32) rfl rfl rfl rfl rfl (by omega) ?_
      refine R_cV1N (q := 35) (ci := 1) (C := C_X1_keep) rfl rfl rfl rfl rfl ⟨_, _, rfl, ⟨rfl, rfl, g.1.2.1, sz, cm⟩⟩ rfl rfl (by omega) (fun M' hc => ?_)
      replace hc := hc _ _ rfl
      generalize M' = M1 at hc ⊢
      have hk : Kp4 M M1 := hc
      refine R_aload_n (q := 36) (i := 0) rfl rfl rfl rfl ?_
      refine R_getR (q := 39) rfl rfl rfl rfl rfl (by omega) ?_
      refine R_getR (q := 42) rfl rfl rfl (lay0 st15) rfl (by omega) ?_
      refine R_iload_n (q := 43) (i := 1) rfl rfl rfl rfl ?_
      refine R_iald (q := 44) rfl rfl (layi st15 rfl) (by omega) (by omega) rfl ?_
      refine R_istore_n (q := 45) (i := 3) rfl rfl rfl rfl ?_
      refine R_aload_n (q := 46) (i := 0) rfl rfl rfl rfl ?_
      refine R_getR (q := 49) rfl rfl rfl rfl rfl (by omega) ?_
      refine R_getR (q := 52) rfl rfl rfl (lay0 st15) rfl (by omega) ?_
      refine R_iload_n (q := 53) (i := 1) rfl rfl rfl rfl ?_
      refine R_iload_n (q := 54) (i := 2) rfl rfl rfl rfl ?_
      refine R_iast (q := 55) rfl rfl (layi st15 rfl) (by omega) (by omega) rfl ?_
      refine R_iload_n (q := 56) (i := 3) rfl rfl rfl rfl ?_
      refine R_ret rfl (Or.inl rfl) ?_
      refine ⟨fun r a b => by rw [upM_r (by omega), hk.lo (by omega) (by omega)], fun y N q => ?_⟩
      rcases q 11 s v rfl with ⟨_, _, z⟩ | ⟨z, _⟩ | ⟨_, z, _⟩
      · exact G_set g hk (by unfold cl; rw [if_pos (by omega), if_neg (by omega), if_neg (by omega), if_neg (by omega), if_neg (by omega), if_pos (by omega)]) (by unfold pl; rw [if_pos (by omega), if_neg (by omega), if_neg (by omega), if_neg (by omega), if_neg (by omega), if_pos (by omega)]; omega) (pv_w (by omega)) (by omega) (Inv_wgt g.2.1.1 (by omega) (by omega)) z
      · omega
      · omega
    · refine R_bipush (q := 23) rfl rfl (by decide) ?_
      refine R_ret rfl (Or.inl rfl) ?_
      refine Bo_sm g SmC.rf (fun y N q => ?_)
      rcases q 11 s v rfl with ⟨_, z, _⟩ | ⟨z, _⟩ | ⟨_, _, z, rfl⟩
      · omega
      · omega
      · exact ⟨z.symm, SmR.rf⟩
  · refine R_iconst (q := 10) rfl rfl ?_
    refine R_ret rfl (Or.inl rfl) ?_
    refine Bo_sm g SmC.rf (fun y N q => ?_)
    rcases q 11 s v rfl with ⟨z, _⟩ | ⟨_, z, rfl⟩ | ⟨z, _⟩
    · omega
    · exact ⟨z.symm, SmR.rf⟩
    · omega
set_option maxRecDepth 100000 in
theorem mt_X6_weight : MtOK yX6_weight cX6_weight 4 (some .int) 3 C_X6_weight := by
  refine mt_of sx_X6_weight (by decide +kernel) (Or.inl ⟨rfl, rfl, rfl⟩) (by decide +kernel) fdX6_ok kLX6_ok kIX6_ok sgX6_ok ntX6_ok
    (all_cons (clokS mt_X6_isWithin (GT_at 282 (by decide +kernel) (by decide +kernel)) (GT_at 11 (by decide +kernel) (by decide +kernel)) (GT_at 284 (by decide +kernel) (by decide +kernel)) (by decide +kernel) (by decide) (GT_at 283 (by decide +kernel) (by decide +kernel))) (all_cons (clokV mt_X1_keep rfl (GT_at 245 (by decide +kernel) (by decide +kernel)) (GT_at 15 (by decide +kernel) (by decide +kernel)) (GT_at 248 (by decide +kernel) (by decide +kernel)) (by decide +kernel) (by decide) (GT_at 246 (by decide +kernel) (by decide +kernel)) (GT_at 247 (by decide +kernel) (by decide +kernel)) rfl rfl) (all_nil))) ?_ ?_
  · rintro as M - ⟨o, s, v, rfl, hp⟩
    exact Nat.le_of_ble_eq_true rfl
  · rintro L scr as M - ⟨o, s, v, rfl, hp⟩
    exact Runs.mono (fun x M' h _ _ _ e => by cases e; exact h) (ok_X6_weight L scr o s v M hp)
abbrev C_X6_trust : Ct := (3, true, fun as M => ∃ (o : Nat) (s : Int) (v : Int), as = [wR o, wI s, wI v] ∧ (o = 3 ∧ GI M ∧ inr s ∧ inr v), fun as M x M' => ∀ (o : Nat) (s : Int) (v : Int), as = [wR o, wI s, wI v] → (Bo C_X7_trust [wR 11, wI s, wI v] M M' x))
def sx_X6_trust : Sx := (tb_X6_trust, fdX6, kLX6, kIX6, sgX6, ntX6, [(41, (9, C_X6_isWithin)), (52, (1, C_X1_keep))], 1)
set_option maxRecDepth 100000 in
set_option maxHeartbeats 1000000 in
theorem ok_X6_trust (L : Nat) (scr : Int → Int) (o : Nat) (s : Int) (v : Int) (M : Mem) (hp : o = 3 ∧ GI M ∧ inr s ∧ inr v) : Runs sx_X6_trust L (xcF scr) (fun x M' => Bo C_X7_trust [wR 11, wI s, wI v] M M' x) 0 [wR o, wI s, wI v, none] [] M := by
  obtain ⟨rfl, g, h1, h2⟩ := hp
  have sz := g.sz
  have cm := g.cm
  refine R_iload_n (q := 1) (i := 1) rfl rfl rfl rfl ?_
  refine R_iconst (q := 2) rfl rfl ?_
  refine R_iconst (q := 3) rfl rfl ?_
  refine R_cS3I (q := 6) (ci := 9) (C := C_X6_isWithin) rfl rfl rfl rfl rfl ⟨_, _, _, rfl, (by first | trivial | assumption | omega)⟩ rfl rfl (fun x M' hc => ?_)
  replace hc := hc _ _ _ rfl
  obtain ⟨w3, rfl⟩ := hc
  refine R_if_ne (q := 9) (tgt := 11) rfl rfl (by decide) (by omega) (fun h6 => ?_) (fun h6 => ?_)
  · refine R_iload_n (q := 12) (i := 2) rfl rfl rfl rfl ?_
    refine R_iconst (q := 13) rfl rfl ?_
    refine R_bipush (q := 15) rfl rfl (by decide) ?_
    refine R_cS3I (q := 18) (ci := 9) (C := C_X6_isWithin) rfl rfl rfl rfl rfl ⟨_, _, _, rfl, (by first | trivial | assumption | omega)⟩ rfl rfl (fun x M' hc => ?_)
    replace hc := hc _ _ _ rfl
    obtain ⟨w15, rfl⟩ := hc
    refine R_if_ne (q := 21) (tgt := 24) rfl rfl (by decide) (by omega) (fun h18 => ?_) (fun h18 => ?_)
    · refine R_aload_n (q := 25) (i := 0) rfl rfl rfl rfl ?_
      refine R_getR (q := 28) rfl rfl rfl rfl rfl (by omega) ?_
      refine R_aload_n (q := 29) (i := 0) rfl rfl rfl rfl ?_
      refine R_getR (q := 32) rfl rfl rfl rfl rfl (by omega) ?_
      refine R_cV1N (q := 35) (ci := 1) (C := C_X1_keep) rfl rfl rfl rfl rfl ⟨_, _, rfl, ⟨rfl, rfl, g.1.2.1, sz, cm⟩⟩ rfl rfl (by omega) (fun M' hc => ?_)
      replace hc := hc _ _ rfl
      generalize M' = M1 at hc ⊢
      have hk : Kp4 M M1 := hc
      refine R_aload_n (q := 36) (i := 0) rfl rfl rfl rfl ?_
      refine R_getR (q := 39) rfl rfl rfl rfl rfl (by omega) ?_
      refine R_getR (q := 42) rfl rfl rfl (lay0 st15) rfl (by omega) ?_
      refine R_iload_n (q := 43) (i := 1) rfl rfl rfl rfl ?_
      refine R_iald (q := 44) rfl rfl (layi st15 rfl) (by omega) (by omega) rfl ?_
      refine R_istore_n (q := 45) (i := 3) rfl rfl rfl rfl ?_
      refine R_aload_n (q := 46) (i := 0) rfl rfl rfl rfl ?_
      refine R_getR (q := 49) rfl rfl rfl rfl rfl (by omega) ?_
      refine R_getR (q := 52) rfl rfl rfl (lay0 st15) rfl (by omega) ?_
      refine R_iload_n (q := 53) (i := 1) rfl rfl rfl rfl ?_
      refine R_iload_n (q := 54) (i := 2) rfl rfl rfl rfl ?_
      refine R_iast (q := 55) rfl rfl (layi st15 rfl) (by omega) (by omega) rfl ?_
      refine R_iload_n (q := 56) (i := 3) rfl rfl rfl rfl ?_
      refine R_ret rfl (Or.inl rfl) ?_
      refine ⟨fun r a b => by rw [upM_r (by omega), hk.lo (by omega) (by omega)], fun y N q => ?_⟩
      rcases q 11 s v rfl with ⟨_, _, z⟩ | ⟨z, _⟩ | ⟨_, z, _⟩
      · exact G_set g hk (by unfold cl; rw [if_pos (by omega), if_neg (by omega), if_neg (by omega), if_neg (by omega), if_neg (by omega), if_neg (by omega), if_pos (by omega)]) (by unfold pl; rw [if_pos (by omega), if_neg (by omega), if_neg (by omega), if_neg (by omega), if_neg (by omega), if_neg (by omega), if_pos (by omega)]; omega) (pv_w (by omega)) (by omega) (Inv_tru g.2.1.1 (by omega) (by omega)) z
      · omega
      · omega
    · refine R_bipush (q := 23) rfl rfl (by decide) ?_
      refine R_ret rfl (Or.inl rfl) ?_
      refine Bo_sm g SmC.rf (fun y N q => ?_)
      rcases q 11 s v rfl with ⟨_, z, _⟩ | ⟨z, _⟩ | ⟨_, _, z, rfl⟩
      · omega
      · omega
      · exact ⟨z.symm, SmR.rf⟩
  · refine R_iconst (q := 10) rfl rfl ?_
    refine R_ret rfl (Or.inl rfl) ?_
    refine Bo_sm g SmC.rf (fun y N q => ?_)
    rcases q 11 s v rfl with ⟨z, _⟩ | ⟨_, z, rfl⟩ | ⟨z, _⟩
    · omega
    · exact ⟨z.symm, SmR.rf⟩
    · omega
set_option maxRecDepth 100000 in
theorem mt_X6_trust : MtOK yX6_trust cX6_trust 4 (some .int) 3 C_X6_trust := by
  refine mt_of sx_X6_trust (by decide +kernel) (Or.inl ⟨rfl, rfl, rfl⟩) (by decide +kernel) fdX6_ok kLX6_ok kIX6_ok sgX6_ok ntX6_ok
    (all_cons (clokS mt_X6_isWithin (GT_at 282 (by decide +kernel) (by decide +kernel)) (GT_at 11 (by decide +kernel) (by decide +kernel)) (GT_at 284 (by decide +kernel) (by decide +kernel)) (by decide +kernel) (by decide) (GT_at 283 (by decide +kernel) (by decide +kernel))) (all_cons (clokV mt_X1_keep rfl (GT_at 245 (by decide +kernel) (by decide +kernel)) (GT_at 15 (by decide +kernel) (by decide +kernel)) (GT_at 248 (by decide +kernel) (by decide +kernel)) (by decide +kernel) (by decide) (GT_at 246 (by decide +kernel) (by decide +kernel)) (GT_at 247 (by decide +kernel) (by decide +kernel)) rfl rfl) (all_nil))) ?_ ?_
  · rintro as M - ⟨o, s, v, rfl, hp⟩
    exact Nat.le_of_ble_eq_true rfl
  · rintro L scr as M - ⟨o, s, v, rfl, hp⟩
    exact Runs.mono (fun x M' h _ _ _ e => by cases e; exact h) (ok_X6_trust L scr o s v M hp)
abbrev C_X6_hands : Ct := (3, true, fun as M => ∃ (o : Nat) (s : Int) (v : Int), as = [wR o, wI s, wI v] ∧ (o = 3 ∧ GI M ∧ inr s ∧ inr v), fun as M x M' => ∀ (o : Nat) (s : Int) (v : Int), as = [wR o, wI s, wI v] → (Bo C_X7_hands [wR 11, wI s, wI v] M M' x))
def sx_X6_hands : Sx := (tb_X6_hands, fdX6, kLX6, kIX6, sgX6, ntX6, [(41, (9, C_X6_isWithin)), (52, (1, C_X1_keep))], 1)
set_option maxRecDepth 100000 in
set_option maxHeartbeats 1000000 in
theorem ok_X6_hands (L : Nat) (scr : Int → Int) (o : Nat) (s : Int) (v : Int) (M : Mem) (hp : o = 3 ∧ GI M ∧ inr s ∧ inr v) : Runs sx_X6_hands L (xcF scr) (fun x M' => Bo C_X7_hands [wR 11, wI s, wI v] M M' x) 0 [wR o, wI s, wI v, none] [] M := by
  obtain ⟨rfl, g, h1, h2⟩ := hp
  have sz := g.sz
  have cm := g.cm
  refine R_iload_n (q := 1) (i := 1) rfl rfl rfl rfl ?_
  refine R_iconst (q := 2) rfl rfl ?_
  refine R_iconst (q := 3) rfl rfl ?_
  refine R_cS3I (q := 6) (ci := 9) (C := C_X6_isWithin) rfl rfl rfl rfl rfl ⟨_, _, _, rfl, (by first | trivial | assumption | omega)⟩ rfl rfl (fun x M' hc => ?_)
  replace hc := hc _ _ _ rfl
  obtain ⟨w3, rfl⟩ := hc
  refine R_if_ne (q := 9) (tgt := 11) rfl rfl (by decide) (by omega) (fun h6 => ?_) (fun h6 => ?_)
  · refine R_iload_n (q := 12) (i := 2) rfl rfl rfl rfl ?_
    refine R_iconst (q := 13) rfl rfl ?_
    refine R_iconst (q := 14) rfl rfl ?_
    refine R_cS3I (q := 17) (ci := 9) (C := C_X6_isWithin) rfl rfl rfl rfl rfl ⟨_, _, _, rfl, (by first | trivial | assumption | omega)⟩ rfl rfl (fun x M' hc => ?_)
    replace hc := hc _ _ _ rfl
    obtain ⟨w14, rfl⟩ := hc
    refine R_if_ne (q := 20) (tgt := 23) rfl rfl (by decide) (by omega) (fun h17 => ?_) (fun h17 => ?_)
    · refine R_aload_n (q := 24) (i := 0) rfl rfl rfl rfl ?_
      refine R_getR (q := 27) rfl rfl rfl rfl rfl (by omega) ?_
      refine R_aload_n (q := 28) (i := 0) rfl rfl rfl rfl ?_
      refine R_getR (q := 31) rfl rfl rfl rfl rfl (by omega) ?_
      refine R_cV1N (q := 34) (ci := 1) (C := C_X1_keep) rfl rfl rfl rfl rfl ⟨_, _, rfl, ⟨rfl, rfl, g.1.2.1, sz, cm⟩⟩ rfl rfl (by omega) (fun M' hc => ?_)
      replace hc := hc _ _ rfl
      generalize M' = M1 at hc ⊢
      have hk : Kp4 M M1 := hc
      have hd : 0 ≤ s ∧ s < 3 := by omega
      refine R_aload_n (q := 35) (i := 0) rfl rfl rfl rfl ?_
      refine R_getR (q := 38) rfl rfl rfl rfl rfl (by omega) ?_
      refine R_getR (q := 41) rfl rfl rfl (lay0 st15) rfl (by omega) ?_
      refine R_iload_n (q := 42) (i := 1) rfl rfl rfl rfl ?_
      refine R_aald (q := 43) (r2 := 15 + 5 + 2 * s.toNat) rfl rfl (layi st15 rfl) (by omega) (by omega) rfl ?_
      refine R_getI (q := 46) (k1 := 2) rfl rfl rfl (lay_dk (dkI st15 hd)) rfl (by omega) rfl ?_
      refine R_istore_n (q := 47) (i := 3) rfl rfl rfl rfl ?_
      refine R_aload_n (q := 48) (i := 0) rfl rfl rfl rfl ?_
      refine R_getR (q := 51) rfl rfl rfl rfl rfl (by omega) ?_
      refine R_getR (q := 54) rfl rfl rfl (lay0 st15) rfl (by omega) ?_
      refine R_iload_n (q := 55) (i := 1) rfl rfl rfl rfl ?_
      refine R_aald (q := 56) (r2 := 15 + 5 + 2 * s.toNat) rfl rfl (layi st15 rfl) (by omega) (by omega) rfl ?_
      refine R_iload_n (q := 57) (i := 2) rfl rfl rfl rfl ?_
      refine R_putI (q := 60) (k1 := 2) rfl rfl rfl (lay_dk (dkI st15 hd)) rfl (by omega) rfl rfl rfl rfl ?_
      refine R_iload_n (q := 61) (i := 3) rfl rfl rfl rfl ?_
      refine R_ret rfl (Or.inl rfl) ?_
      refine ⟨fun r a b => by rw [upM_r (by omega), hk.lo (by omega) (by omega)], fun y N q => ?_⟩
      rcases q 11 s v rfl with ⟨_, _, z⟩ | ⟨z, _⟩ | ⟨_, z, _⟩
      · exact G_set g hk (by rw [(clD hd).1.1]; omega) (clD hd).2.1 (pv_w (by omega)) (by omega) (Inv_hds g.2.1.1 (by omega) (by omega)) z
      · omega
      · omega
    · refine R_bipush (q := 22) rfl rfl (by decide) ?_
      refine R_ret rfl (Or.inl rfl) ?_
      refine Bo_sm g SmC.rf (fun y N q => ?_)
      rcases q 11 s v rfl with ⟨_, z, _⟩ | ⟨z, _⟩ | ⟨_, _, z, rfl⟩
      · omega
      · omega
      · exact ⟨z.symm, SmR.rf⟩
  · refine R_iconst (q := 10) rfl rfl ?_
    refine R_ret rfl (Or.inl rfl) ?_
    refine Bo_sm g SmC.rf (fun y N q => ?_)
    rcases q 11 s v rfl with ⟨z, _⟩ | ⟨_, z, rfl⟩ | ⟨z, _⟩
    · omega
    · exact ⟨z.symm, SmR.rf⟩
    · omega
set_option maxRecDepth 100000 in
theorem mt_X6_hands : MtOK yX6_hands cX6_hands 4 (some .int) 3 C_X6_hands := by
  refine mt_of sx_X6_hands (by decide +kernel) (Or.inl ⟨rfl, rfl, rfl⟩) (by decide +kernel) fdX6_ok kLX6_ok kIX6_ok sgX6_ok ntX6_ok
    (all_cons (clokS mt_X6_isWithin (GT_at 282 (by decide +kernel) (by decide +kernel)) (GT_at 11 (by decide +kernel) (by decide +kernel)) (GT_at 284 (by decide +kernel) (by decide +kernel)) (by decide +kernel) (by decide) (GT_at 283 (by decide +kernel) (by decide +kernel))) (all_cons (clokV mt_X1_keep rfl (GT_at 245 (by decide +kernel) (by decide +kernel)) (GT_at 15 (by decide +kernel) (by decide +kernel)) (GT_at 248 (by decide +kernel) (by decide +kernel)) (by decide +kernel) (by decide) (GT_at 246 (by decide +kernel) (by decide +kernel)) (GT_at 247 (by decide +kernel) (by decide +kernel)) rfl rfl) (all_nil))) ?_ ?_
  · rintro as M - ⟨o, s, v, rfl, hp⟩
    exact Nat.le_of_ble_eq_true rfl
  · rintro L scr as M - ⟨o, s, v, rfl, hp⟩
    exact Runs.mono (fun x M' h _ _ _ e => by cases e; exact h) (ok_X6_hands L scr o s v M hp)
