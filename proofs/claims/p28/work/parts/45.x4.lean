theorem w01 {p : Prop} [Decidable p] {x : Int} (h : (if p then 1 else 0) = x) : x = 1 ∧ p ∨ x = 0 ∧ ¬ p := by
  subst h
  by_cases h : p
  · rw [if_pos h]
    exact Or.inl ⟨rfl, h⟩
  · rw [if_neg h]
    exact Or.inr ⟨rfl, h⟩
theorem pp_gh {M : Mem} {a : Nat} {f : Int → Int} (ha : isSt a) (h : RelS M a f) (I : Inv f) {t : Int} (ht : hasT f t) : PpO (gho M f) (a + 11) (gho M f 200) t := by
  have i7 := I.i7
  unfold hasT at ht
  rw [gho_g]
  exact (h.gh ha).ppo I.1 ht (by omega)
theorem hc_pre {M : Mem} (g : GI M) {t : Int} (h : inr t) : isSt 15 ∧ inr t ∧ inr (M (15 + 11) 0) := by
  have e : M (15 + 11) 0 = M 12 7 := g.1.1.ca
  have := g.i7
  exact ⟨st15, h, by omega⟩
theorem hc_w {M : Mem} (g : GI M) {t x : Int} (h : (if 0 ≤ t ∧ t < M (15 + 11) 0 then 1 else 0) = x) : x = 1 ∧ (0 ≤ t ∧ t < M 12 7) ∨ x = 0 ∧ ¬ (0 ≤ t ∧ t < M 12 7) := by
  have e : M (15 + 11) 0 = M 12 7 := g.1.1.ca
  rw [e] at h
  exact w01 h
abbrev C_X6_desk : Ct := (3, true, fun as M => ∃ (o : Nat) (d : Int) (w : Int), as = [wR o, wI d, wI w] ∧ (o = 3 ∧ GI M ∧ inr d ∧ inr w), fun as M x M' => ∀ (o : Nat) (d : Int) (w : Int), as = [wR o, wI d, wI w] → (Bo C_X7_desk [wR 11, wI d, wI w] M M' x))
def sx_X6_desk : Sx := (tb_X6_desk, fdX6, kLX6, kIX6, sgX6, ntX6, [(41, (9, C_X6_isWithin)), (171, (4, C_X4_doubtsAt))], 1)
set_option maxRecDepth 100000 in
set_option maxHeartbeats 1000000 in
theorem ok_X6_desk (L : Nat) (scr : Int → Int) (o : Nat) (d : Int) (w : Int) (M : Mem) (hp : o = 3 ∧ GI M ∧ inr d ∧ inr w) : Runs sx_X6_desk L (xcF scr) (fun x M' => Bo C_X7_desk [wR 11, wI d, wI w] M M' x) 0 [wR o, wI d, wI w] [] M := by
  obtain ⟨rfl, g, h1, h2⟩ := hp
  have r0 := g.1.1
  by_cases hd : 0 ≤ d ∧ d < 3
  · have done : ∀ x, (w = 0 ∧ x = M 12 (26 + 4 * d) ∨ w = 1 ∧ x = M 12 (27 + 4 * d) ∨ w = 2 ∧ x = sdD (M 12) d ∨ w = 3 ∧ x = M 12 (28 + 4 * d) ∨ w = 4 ∧ x = M 12 (29 + 4 * d) ∨ (w < 0 ∨ 4 < w) ∧ x = -2) → Bo C_X7_desk [wR 11, wI d, wI w] M M x := fun x e => Bo_sm g SmC.rf (fun y N q => by
      obtain ⟨rfl, q⟩ := q 11 d w rfl
      exact ⟨by omega, SmR.rf⟩)
    by_cases h0w : w = 0
    · subst h0w
      refine R_iload_n (q := 1) (i := 1) rfl rfl rfl rfl ?_
      refine R_iconst (q := 2) rfl rfl ?_
      refine R_iconst (q := 3) rfl rfl ?_
      refine R_cS3I (q := 6) (ci := 9) (C := C_X6_isWithin) rfl rfl rfl rfl rfl ⟨_, _, _, rfl, (by first | trivial | assumption | omega)⟩ rfl rfl (fun x M' hc => ?_)
      replace hc := hc _ _ _ rfl
      obtain ⟨w3, rfl⟩ := hc
      refine R_if_ne (q := 9) (tgt := 11) rfl rfl (by decide) (by omega) (fun h6 => ?_) (fun h6 => ?_)
      · refine R_iload_n (q := 12) (i := 2) rfl rfl rfl rfl ?_
        refine R_tblIn (q := 48) (off := 36) (tgt := 48) rfl rfl (by omega) (by omega) rfl (by decide) ?_
        refine R_aload_n (q := 49) (i := 0) rfl rfl rfl rfl ?_
        refine R_getR (q := 52) rfl rfl rfl rfl rfl (by omega) ?_
        refine R_getR (q := 55) rfl rfl rfl (lay0 st15) rfl (by omega) ?_
        refine R_iload_n (q := 56) (i := 1) rfl rfl rfl rfl ?_
        refine R_aald (q := 57) (r2 := 15 + 5 + 2 * d.toNat) rfl rfl (layi st15 rfl) (by omega) (by omega) rfl ?_
        refine R_getI (q := 60) (k1 := 2) rfl rfl rfl (lay_dk (dkI st15 hd)) rfl (by omega) rfl ?_
        refine R_ret rfl (Or.inl rfl) ?_
        exact done _ (by have := r0.hc hd; omega)
      · omega
    by_cases h1w : w = 1
    · subst h1w
      refine R_iload_n (q := 1) (i := 1) rfl rfl rfl rfl ?_
      refine R_iconst (q := 2) rfl rfl ?_
      refine R_iconst (q := 3) rfl rfl ?_
      refine R_cS3I (q := 6) (ci := 9) (C := C_X6_isWithin) rfl rfl rfl rfl rfl ⟨_, _, _, rfl, (by first | trivial | assumption | omega)⟩ rfl rfl (fun x M' hc => ?_)
      replace hc := hc _ _ _ rfl
      obtain ⟨w3, rfl⟩ := hc
      refine R_if_ne (q := 9) (tgt := 11) rfl rfl (by decide) (by omega) (fun h6 => ?_) (fun h6 => ?_)
      · refine R_iload_n (q := 12) (i := 2) rfl rfl rfl rfl ?_
        refine R_tblIn (q := 48) (off := 49) (tgt := 61) rfl rfl (by omega) (by omega) rfl (by decide) ?_
        refine R_aload_n (q := 62) (i := 0) rfl rfl rfl rfl ?_
        refine R_getR (q := 65) rfl rfl rfl rfl rfl (by omega) ?_
        refine R_getR (q := 68) rfl rfl rfl (lay0 st15) rfl (by omega) ?_
        refine R_iload_n (q := 69) (i := 1) rfl rfl rfl rfl ?_
        refine R_aald (q := 70) (r2 := 15 + 5 + 2 * d.toNat) rfl rfl (layi st15 rfl) (by omega) (by omega) rfl ?_
        refine R_getI (q := 73) (k1 := 1) rfl rfl rfl (lay_dk (dkI st15 hd)) rfl (by omega) rfl ?_
        refine R_ret rfl (Or.inl rfl) ?_
        exact done _ (by have := r0.wa hd; omega)
      · omega
    by_cases h2w : w = 2
    · subst h2w
      refine R_iload_n (q := 1) (i := 1) rfl rfl rfl rfl ?_
      refine R_iconst (q := 2) rfl rfl ?_
      refine R_iconst (q := 3) rfl rfl ?_
      refine R_cS3I (q := 6) (ci := 9) (C := C_X6_isWithin) rfl rfl rfl rfl rfl ⟨_, _, _, rfl, (by first | trivial | assumption | omega)⟩ rfl rfl (fun x M' hc => ?_)
      replace hc := hc _ _ _ rfl
      obtain ⟨w3, rfl⟩ := hc
      refine R_if_ne (q := 9) (tgt := 11) rfl rfl (by decide) (by omega) (fun h6 => ?_) (fun h6 => ?_)
      · refine R_iload_n (q := 12) (i := 2) rfl rfl rfl rfl ?_
        refine R_tblIn (q := 48) (off := 62) (tgt := 74) rfl rfl (by omega) (by omega) rfl (by decide) ?_
        refine R_aload_n (q := 75) (i := 0) rfl rfl rfl rfl ?_
        refine R_getR (q := 78) rfl rfl rfl rfl rfl (by omega) ?_
        refine R_iload_n (q := 79) (i := 1) rfl rfl rfl rfl ?_
        refine R_gh (M 12) ?_
        refine R_cV1I (q := 82) (ci := 4) (C := C_X4_doubtsAt) rfl rfl rfl rfl rfl ⟨_, _, rfl, ⟨g.si, hd⟩⟩ rfl (lay0 st15) (by omega) (fun x M' hc => ?_)
        replace hc := hc _ _ rfl
        obtain ⟨hc, rfl⟩ := hc
        simp only [gho_g] at hc
        subst hc
        refine R_un ?_
        refine R_ret rfl (Or.inl rfl) ?_
        exact done _ (by omega)
      · omega
    by_cases h3w : w = 3
    · subst h3w
      refine R_iload_n (q := 1) (i := 1) rfl rfl rfl rfl ?_
      refine R_iconst (q := 2) rfl rfl ?_
      refine R_iconst (q := 3) rfl rfl ?_
      refine R_cS3I (q := 6) (ci := 9) (C := C_X6_isWithin) rfl rfl rfl rfl rfl ⟨_, _, _, rfl, (by first | trivial | assumption | omega)⟩ rfl rfl (fun x M' hc => ?_)
      replace hc := hc _ _ _ rfl
      obtain ⟨w3, rfl⟩ := hc
      refine R_if_ne (q := 9) (tgt := 11) rfl rfl (by decide) (by omega) (fun h6 => ?_) (fun h6 => ?_)
      · refine R_iload_n (q := 12) (i := 2) rfl rfl rfl rfl ?_
        refine R_tblIn (q := 48) (off := 71) (tgt := 83) rfl rfl (by omega) (by omega) rfl (by decide) ?_
        refine R_aload_n (q := 84) (i := 0) rfl rfl rfl rfl ?_
        refine R_getR (q := 87) rfl rfl rfl rfl rfl (by omega) ?_
        refine R_getR (q := 90) rfl rfl rfl (lay0 st15) rfl (by omega) ?_
        refine R_iload_n (q := 91) (i := 1) rfl rfl rfl rfl ?_
        refine R_aald (q := 92) (r2 := 15 + 5 + 2 * d.toNat) rfl rfl (layi st15 rfl) (by omega) (by omega) rfl ?_
        refine R_getI (q := 95) (k1 := 3) rfl rfl rfl (lay_dk (dkI st15 hd)) rfl (by omega) rfl ?_
        refine R_ret rfl (Or.inl rfl) ?_
        exact done _ (by have := r0.lk hd; omega)
      · omega
    by_cases h4w : w = 4
    · subst h4w
      refine R_iload_n (q := 1) (i := 1) rfl rfl rfl rfl ?_
      refine R_iconst (q := 2) rfl rfl ?_
      refine R_iconst (q := 3) rfl rfl ?_
      refine R_cS3I (q := 6) (ci := 9) (C := C_X6_isWithin) rfl rfl rfl rfl rfl ⟨_, _, _, rfl, (by first | trivial | assumption | omega)⟩ rfl rfl (fun x M' hc => ?_)
      replace hc := hc _ _ _ rfl
      obtain ⟨w3, rfl⟩ := hc
      refine R_if_ne (q := 9) (tgt := 11) rfl rfl (by decide) (by omega) (fun h6 => ?_) (fun h6 => ?_)
      · refine R_iload_n (q := 12) (i := 2) rfl rfl rfl rfl ?_
        refine R_tblIn (q := 48) (off := 84) (tgt := 96) rfl rfl (by omega) (by omega) rfl (by decide) ?_
        refine R_aload_n (q := 97) (i := 0) rfl rfl rfl rfl ?_
        refine R_getR (q := 100) rfl rfl rfl rfl rfl (by omega) ?_
        refine R_getR (q := 103) rfl rfl rfl (lay0 st15) rfl (by omega) ?_
        refine R_iload_n (q := 104) (i := 1) rfl rfl rfl rfl ?_
        refine R_aald (q := 105) (r2 := 15 + 5 + 2 * d.toNat) rfl rfl (layi st15 rfl) (by omega) (by omega) rfl ?_
        refine R_getI (q := 108) (k1 := 4) rfl rfl rfl (lay_dk (dkI st15 hd)) rfl (by omega) rfl ?_
        refine R_ret rfl (Or.inl rfl) ?_
        exact done _ (by have := r0.ps hd; omega)
      · omega
    refine R_iload_n (q := 1) (i := 1) rfl rfl rfl rfl ?_
    refine R_iconst (q := 2) rfl rfl ?_
    refine R_iconst (q := 3) rfl rfl ?_
    refine R_cS3I (q := 6) (ci := 9) (C := C_X6_isWithin) rfl rfl rfl rfl rfl ⟨_, _, _, rfl, (by first | trivial | assumption | omega)⟩ rfl rfl (fun x M' hc => ?_)
    replace hc := hc _ _ _ rfl
    obtain ⟨w3, rfl⟩ := hc
    refine R_if_ne (q := 9) (tgt := 11) rfl rfl (by decide) (by omega) (fun h6 => ?_) (fun h6 => ?_)
    · refine R_iload_n (q := 12) (i := 2) rfl rfl rfl rfl ?_
      refine R_tblOut (q := 48) (tgt := 109) rfl rfl (by omega) (by omega) (by decide) ?_
      refine R_bipush (q := 111) rfl rfl (by decide) ?_
      refine R_ret rfl (Or.inl rfl) ?_
      exact done _ (by omega)
    · omega
  · refine R_iload_n (q := 1) (i := 1) rfl rfl rfl rfl ?_
    refine R_iconst (q := 2) rfl rfl ?_
    refine R_iconst (q := 3) rfl rfl ?_
    refine R_cS3I (q := 6) (ci := 9) (C := C_X6_isWithin) rfl rfl rfl rfl rfl ⟨_, _, _, rfl, (by first | trivial | assumption | omega)⟩ rfl rfl (fun x M' hc => ?_)
    replace hc := hc _ _ _ rfl
    obtain ⟨w3, rfl⟩ := hc
    refine R_if_ne (q := 9) (tgt := 11) rfl rfl (by decide) (by omega) (fun h6 => ?_) (fun h6 => ?_)
    · omega
    · refine R_iconst (q := 10) rfl rfl ?_
      refine R_ret rfl (Or.inl rfl) ?_
      exact Bo_sm g SmC.rf (fun y N q => by
        obtain ⟨rfl, q⟩ := q 11 d w rfl
        exact ⟨by omega, SmR.rf⟩)
set_option maxRecDepth 100000 in
theorem mt_X6_desk : MtOK yX6_desk cX6_desk 3 (some .int) 4 C_X6_desk := by
  refine mt_of sx_X6_desk (by decide +kernel) (Or.inl ⟨rfl, rfl, rfl⟩) (by decide +kernel) fdX6_ok kLX6_ok kIX6_ok sgX6_ok ntX6_ok
    (all_cons (clokS mt_X6_isWithin (GT_at 282 (by decide +kernel) (by decide +kernel)) (GT_at 11 (by decide +kernel) (by decide +kernel)) (GT_at 284 (by decide +kernel) (by decide +kernel)) (by decide +kernel) (by decide) (GT_at 283 (by decide +kernel) (by decide +kernel))) (all_cons (clokV mt_X4_doubtsAt rfl (GT_at 491 (by decide +kernel) (by decide +kernel)) (GT_at 12 (by decide +kernel) (by decide +kernel)) (GT_at 494 (by decide +kernel) (by decide +kernel)) (by decide +kernel) (by decide) (GT_at 492 (by decide +kernel) (by decide +kernel)) (GT_at 493 (by decide +kernel) (by decide +kernel)) rfl rfl) (all_nil))) ?_ ?_
  · rintro as M - ⟨o, d, w, rfl, hp⟩
    exact Nat.le_of_ble_eq_true rfl
  · rintro L scr as M - ⟨o, d, w, rfl, hp⟩
    exact Runs.mono (fun x M' h _ _ _ e => by cases e; exact h) (ok_X6_desk L scr o d w M hp)
abbrev C_X6_trunk : Ct := (3, true, fun as M => ∃ (o : Nat) (t : Int) (w : Int), as = [wR o, wI t, wI w] ∧ (o = 3 ∧ GI M ∧ inr t ∧ inr w), fun as M x M' => ∀ (o : Nat) (t : Int) (w : Int), as = [wR o, wI t, wI w] → (Bo C_X7_trunk [wR 11, wI t, wI w] M M' x))
def sx_X6_trunk : Sx := (tb_X6_trunk, fdX6, kLX6, kIX6, sgX6, ntX6, [(140, (4, C_X4_hasCome)), (121, (4, C_X4_deskOf)), (146, (4, C_X4_placeOf)), (117, (4, C_X4_doubtOf)), (149, (5, C_X5_disagreements))], 1)
set_option maxRecDepth 100000 in
set_option maxHeartbeats 1000000 in
theorem ok_X6_trunk (L : Nat) (scr : Int → Int) (o : Nat) (t : Int) (w : Int) (M : Mem) (hp : o = 3 ∧ GI M ∧ inr t ∧ inr w) : Runs sx_X6_trunk L (xcF scr) (fun x M' => Bo C_X7_trunk [wR 11, wI t, wI w] M M' x) 0 [wR o, wI t, wI w, none] [] M := by
  obtain ⟨rfl, g, h1, h2⟩ := hp
  have r0 := g.1.1
  have I := g.2.1.1
  have i7 := g.i7
  have e7 : M 26 0 = M 12 7 := r0.ca
  have si := g.si
  by_cases hd : 0 ≤ t ∧ t < M 12 7
  · have done : ∀ x, x = trV (M 12) t w → Bo C_X7_trunk [wR 11, wI t, wI w] M M x := fun x e => Bo_sm g SmC.rf (fun y N q => by
      obtain ⟨rfl, ⟨q, _⟩ | ⟨_, q⟩⟩ := q 11 t w rfl
      · exact absurd hd q
      · exact ⟨e.trans q.symm, SmR.rf⟩)
    have e2 : (0 ≤ t ∧ t < M 26 0) := by omega
    have t64 : t < 64 := by omega
    by_cases h0w : w = 0
    · subst h0w
      refine R_aload_n (q := 1) (i := 0) rfl rfl rfl rfl ?_
      refine R_getR (q := 4) rfl rfl rfl rfl rfl (by omega) ?_
      refine R_iload_n (q := 5) (i := 1) rfl rfl rfl rfl ?_
      refine R_cV1I (q := 8) (ci := 4) (C := C_X4_hasCome) rfl rfl rfl rfl rfl ⟨_, _, rfl, hc_pre g h1⟩ rfl (lay0 st15) (by omega) (fun x M' hc => ?_)
      replace hc := hc _ _ rfl
      obtain ⟨hc, rfl⟩ := hc
      replace hc := hc_w g hc
      refine R_if_ne (q := 11) (tgt := 13) rfl rfl (by decide) (by omega) (fun h8 => ?_) (fun h8 => ?_)
      · refine R_aload_n (q := 14) (i := 0) rfl rfl rfl rfl ?_
        refine R_getR (q := 17) rfl rfl rfl rfl rfl (by omega) ?_
        refine R_getR (q := 20) rfl rfl rfl (lay0 st15) rfl (by omega) ?_
        refine R_astore_n (q := 21) (i := 3) rfl rfl rfl rfl ?_
        refine R_iload_n (q := 22) (i := 2) rfl rfl rfl rfl ?_
        refine R_tblIn (q := 76) (off := 54) (tgt := 76) rfl rfl (by omega) (by omega) rfl (by decide) ?_
        refine R_aload_n (q := 77) (i := 3) rfl rfl rfl rfl ?_
        refine R_getR (q := 80) rfl rfl rfl (lay_tk (tkI st15)) rfl (by omega) ?_
        refine R_iload_n (q := 81) (i := 1) rfl rfl rfl rfl ?_
        refine R_iald (q := 82) rfl rfl (lay_ta (tkI st15) rfl) (by omega) (by omega) rfl ?_
        refine R_ret rfl (Or.inl rfl) ?_
        exact done _ (r0.co hd t64)
      · omega
    by_cases h1w : w = 1
    · subst h1w
      refine R_aload_n (q := 1) (i := 0) rfl rfl rfl rfl ?_
      refine R_getR (q := 4) rfl rfl rfl rfl rfl (by omega) ?_
      refine R_iload_n (q := 5) (i := 1) rfl rfl rfl rfl ?_
      refine R_cV1I (q := 8) (ci := 4) (C := C_X4_hasCome) rfl rfl rfl rfl rfl ⟨_, _, rfl, hc_pre g h1⟩ rfl (lay0 st15) (by omega) (fun x M' hc => ?_)
      replace hc := hc _ _ rfl
      obtain ⟨hc, rfl⟩ := hc
      replace hc := hc_w g hc
      refine R_if_ne (q := 11) (tgt := 13) rfl rfl (by decide) (by omega) (fun h8 => ?_) (fun h8 => ?_)
      · refine R_aload_n (q := 14) (i := 0) rfl rfl rfl rfl ?_
        refine R_getR (q := 17) rfl rfl rfl rfl rfl (by omega) ?_
        refine R_getR (q := 20) rfl rfl rfl (lay0 st15) rfl (by omega) ?_
        refine R_astore_n (q := 21) (i := 3) rfl rfl rfl rfl ?_
        refine R_iload_n (q := 22) (i := 2) rfl rfl rfl rfl ?_
        refine R_tblIn (q := 76) (off := 61) (tgt := 83) rfl rfl (by omega) (by omega) rfl (by decide) ?_
        refine R_aload_n (q := 84) (i := 0) rfl rfl rfl rfl ?_
        refine R_getR (q := 87) rfl rfl rfl rfl rfl (by omega) ?_
        refine R_iload_n (q := 88) (i := 1) rfl rfl rfl rfl ?_
        refine R_gh (M 12) ?_
        refine R_cV1I (q := 91) (ci := 4) (C := C_X4_deskOf) rfl rfl rfl rfl rfl ⟨_, _, rfl, ⟨si, h1⟩⟩ rfl (lay0 st15) (by omega) (fun x M' hc => ?_)
        replace hc := hc _ _ rfl
        obtain ⟨hc, rfl⟩ := hc
        simp only [gho_g] at hc
        subst hc
        refine R_un ?_
        refine R_ret rfl (Or.inl rfl) ?_
        exact done _ rfl
      · omega
    by_cases h2w : w = 2
    · subst h2w
      refine R_aload_n (q := 1) (i := 0) rfl rfl rfl rfl ?_
      refine R_getR (q := 4) rfl rfl rfl rfl rfl (by omega) ?_
      refine R_iload_n (q := 5) (i := 1) rfl rfl rfl rfl ?_
      refine R_cV1I (q := 8) (ci := 4) (C := C_X4_hasCome) rfl rfl rfl rfl rfl ⟨_, _, rfl, hc_pre g h1⟩ rfl (lay0 st15) (by omega) (fun x M' hc => ?_)
      replace hc := hc _ _ rfl
      obtain ⟨hc, rfl⟩ := hc
      replace hc := hc_w g hc
      refine R_if_ne (q := 11) (tgt := 13) rfl rfl (by decide) (by omega) (fun h8 => ?_) (fun h8 => ?_)
      · refine R_aload_n (q := 14) (i := 0) rfl rfl rfl rfl ?_
        refine R_getR (q := 17) rfl rfl rfl rfl rfl (by omega) ?_
        refine R_getR (q := 20) rfl rfl rfl (lay0 st15) rfl (by omega) ?_
        refine R_astore_n (q := 21) (i := 3) rfl rfl rfl rfl ?_
        refine R_iload_n (q := 22) (i := 2) rfl rfl rfl rfl ?_
        refine R_tblIn (q := 76) (off := 70) (tgt := 92) rfl rfl (by omega) (by omega) rfl (by decide) ?_
        refine R_aload_n (q := 93) (i := 0) rfl rfl rfl rfl ?_
        refine R_getR (q := 96) rfl rfl rfl rfl rfl (by omega) ?_
        refine R_iload_n (q := 97) (i := 1) rfl rfl rfl rfl ?_
        refine R_gh (M 12) ?_
        refine R_cV1I (q := 100) (ci := 4) (C := C_X4_placeOf) rfl rfl rfl rfl rfl ⟨_, _, rfl, ⟨si, h1⟩⟩ rfl (lay0 st15) (by omega) (fun x M' hc => ?_)
        replace hc := hc _ _ rfl
        obtain ⟨hc, rfl⟩ := hc
        simp only [gho_g] at hc
        subst hc
        refine R_un ?_
        refine R_ret rfl (Or.inl rfl) ?_
        exact done _ rfl
      · omega
    by_cases h3w : w = 3
    · subst h3w
      refine R_aload_n (q := 1) (i := 0) rfl rfl rfl rfl ?_
      refine R_getR (q := 4) rfl rfl rfl rfl rfl (by omega) ?_
      refine R_iload_n (q := 5) (i := 1) rfl rfl rfl rfl ?_
      refine R_cV1I (q := 8) (ci := 4) (C := C_X4_hasCome) rfl rfl rfl rfl rfl ⟨_, _, rfl, hc_pre g h1⟩ rfl (lay0 st15) (by omega) (fun x M' hc => ?_)
      replace hc := hc _ _ rfl
      obtain ⟨hc, rfl⟩ := hc
      replace hc := hc_w g hc
      refine R_if_ne (q := 11) (tgt := 13) rfl rfl (by decide) (by omega) (fun h8 => ?_) (fun h8 => ?_)
      · refine R_aload_n (q := 14) (i := 0) rfl rfl rfl rfl ?_
        refine R_getR (q := 17) rfl rfl rfl rfl rfl (by omega) ?_
        refine R_getR (q := 20) rfl rfl rfl (lay0 st15) rfl (by omega) ?_
        refine R_astore_n (q := 21) (i := 3) rfl rfl rfl rfl ?_
        refine R_iload_n (q := 22) (i := 2) rfl rfl rfl rfl ?_
        refine R_tblIn (q := 76) (off := 79) (tgt := 101) rfl rfl (by omega) (by omega) rfl (by decide) ?_
        refine R_aload_n (q := 102) (i := 0) rfl rfl rfl rfl ?_
        refine R_getR (q := 105) rfl rfl rfl rfl rfl (by omega) ?_
        refine R_iload_n (q := 106) (i := 1) rfl rfl rfl rfl ?_
        refine R_gh (M 12) ?_
        refine R_cV1I (q := 109) (ci := 4) (C := C_X4_doubtOf) rfl rfl rfl rfl rfl ⟨_, _, rfl, ⟨si, by rw [gho_g]; exact hd⟩⟩ rfl (lay0 st15) (by omega) (fun x M' hc => ?_)
        replace hc := hc _ _ rfl
        obtain ⟨hc, rfl⟩ := hc
        simp only [gho_g] at hc
        subst hc
        refine R_un ?_
        refine R_ret rfl (Or.inl rfl) ?_
        exact done _ rfl
      · omega
    by_cases h4w : w = 4
    · subst h4w
      refine R_aload_n (q := 1) (i := 0) rfl rfl rfl rfl ?_
      refine R_getR (q := 4) rfl rfl rfl rfl rfl (by omega) ?_
      refine R_iload_n (q := 5) (i := 1) rfl rfl rfl rfl ?_
      refine R_cV1I (q := 8) (ci := 4) (C := C_X4_hasCome) rfl rfl rfl rfl rfl ⟨_, _, rfl, hc_pre g h1⟩ rfl (lay0 st15) (by omega) (fun x M' hc => ?_)
      replace hc := hc _ _ rfl
      obtain ⟨hc, rfl⟩ := hc
      replace hc := hc_w g hc
      refine R_if_ne (q := 11) (tgt := 13) rfl rfl (by decide) (by omega) (fun h8 => ?_) (fun h8 => ?_)
      · refine R_aload_n (q := 14) (i := 0) rfl rfl rfl rfl ?_
        refine R_getR (q := 17) rfl rfl rfl rfl rfl (by omega) ?_
        refine R_getR (q := 20) rfl rfl rfl (lay0 st15) rfl (by omega) ?_
        refine R_astore_n (q := 21) (i := 3) rfl rfl rfl rfl ?_
        refine R_iload_n (q := 22) (i := 2) rfl rfl rfl rfl ?_
        refine R_tblIn (q := 76) (off := 88) (tgt := 110) rfl rfl (by omega) (by omega) rfl (by decide) ?_
        refine R_aload_n (q := 111) (i := 3) rfl rfl rfl rfl ?_
        refine R_iload_n (q := 112) (i := 1) rfl rfl rfl rfl ?_
        refine R_aload_n (q := 113) (i := 0) rfl rfl rfl rfl ?_
        refine R_getR (q := 116) rfl rfl rfl rfl rfl (by omega) ?_
        refine R_getR (q := 119) rfl rfl rfl (lay0 st15) rfl (by omega) ?_
        refine R_iconst (q := 120) rfl rfl ?_
        refine R_iald (q := 121) (v := M 12 4) rfl rfl (layi st15 rfl) (by omega) (by omega) (r0.st (k := 4) (by omega)) ?_
        refine R_gh (M 12) ?_
        refine R_cV2I (q := 124) (ci := 5) (C := C_X5_disagreements) rfl rfl rfl rfl rfl ⟨_, _, _, rfl, ⟨tkI st15, by omega, g.2.1.1.1.1.2.2.2.2.1, by rw [gho_g], pp_gh st15 r0 I hd⟩⟩ rfl (lay_tk (tkI st15)) (by omega) (fun x M' hc => ?_)
        replace hc := hc _ _ _ rfl
        obtain ⟨hc, rfl⟩ := hc
        simp only [gho_g] at hc
        subst hc
        refine R_un ?_
        refine R_ret rfl (Or.inl rfl) ?_
        exact done _ rfl
      · omega
    by_cases h5w : w = 5
    · subst h5w
      refine R_aload_n (q := 1) (i := 0) rfl rfl rfl rfl ?_
      refine R_getR (q := 4) rfl rfl rfl rfl rfl (by omega) ?_
      refine R_iload_n (q := 5) (i := 1) rfl rfl rfl rfl ?_
      refine R_cV1I (q := 8) (ci := 4) (C := C_X4_hasCome) rfl rfl rfl rfl rfl ⟨_, _, rfl, hc_pre g h1⟩ rfl (lay0 st15) (by omega) (fun x M' hc => ?_)
      replace hc := hc _ _ rfl
      obtain ⟨hc, rfl⟩ := hc
      replace hc := hc_w g hc
      refine R_if_ne (q := 11) (tgt := 13) rfl rfl (by decide) (by omega) (fun h8 => ?_) (fun h8 => ?_)
      · refine R_aload_n (q := 14) (i := 0) rfl rfl rfl rfl ?_
        refine R_getR (q := 17) rfl rfl rfl rfl rfl (by omega) ?_
        refine R_getR (q := 20) rfl rfl rfl (lay0 st15) rfl (by omega) ?_
        refine R_astore_n (q := 21) (i := 3) rfl rfl rfl rfl ?_
        refine R_iload_n (q := 22) (i := 2) rfl rfl rfl rfl ?_
        refine R_tblIn (q := 76) (off := 103) (tgt := 125) rfl rfl (by omega) (by omega) rfl (by decide) ?_
        refine R_aload_n (q := 126) (i := 3) rfl rfl rfl rfl ?_
        refine R_getR (q := 129) rfl rfl rfl (lay_tk (tkI st15)) rfl (by omega) ?_
        refine R_iload_n (q := 130) (i := 1) rfl rfl rfl rfl ?_
        refine R_iald (q := 131) rfl rfl (lay_ta (tkI st15) rfl) (by omega) (by omega) rfl ?_
        refine R_ret rfl (Or.inl rfl) ?_
        exact done _ (r0.ac hd t64)
      · omega
    by_cases h6w : w = 6
    · subst h6w
      refine R_aload_n (q := 1) (i := 0) rfl rfl rfl rfl ?_
      refine R_getR (q := 4) rfl rfl rfl rfl rfl (by omega) ?_
      refine R_iload_n (q := 5) (i := 1) rfl rfl rfl rfl ?_
      refine R_cV1I (q := 8) (ci := 4) (C := C_X4_hasCome) rfl rfl rfl rfl rfl ⟨_, _, rfl, hc_pre g h1⟩ rfl (lay0 st15) (by omega) (fun x M' hc => ?_)
      replace hc := hc _ _ rfl
      obtain ⟨hc, rfl⟩ := hc
      replace hc := hc_w g hc
      refine R_if_ne (q := 11) (tgt := 13) rfl rfl (by decide) (by omega) (fun h8 => ?_) (fun h8 => ?_)
      · refine R_aload_n (q := 14) (i := 0) rfl rfl rfl rfl ?_
        refine R_getR (q := 17) rfl rfl rfl rfl rfl (by omega) ?_
        refine R_getR (q := 20) rfl rfl rfl (lay0 st15) rfl (by omega) ?_
        refine R_astore_n (q := 21) (i := 3) rfl rfl rfl rfl ?_
        refine R_iload_n (q := 22) (i := 2) rfl rfl rfl rfl ?_
        refine R_tblIn (q := 76) (off := 110) (tgt := 132) rfl rfl (by omega) (by omega) rfl (by decide) ?_
        refine R_aload_n (q := 133) (i := 3) rfl rfl rfl rfl ?_
        refine R_getR (q := 136) rfl rfl rfl (lay_tk (tkI st15)) rfl (by omega) ?_
        refine R_iload_n (q := 137) (i := 1) rfl rfl rfl rfl ?_
        refine R_iald (q := 138) rfl rfl (lay_ta (tkI st15) rfl) (by omega) (by omega) rfl ?_
        refine R_ret rfl (Or.inl rfl) ?_
        exact done _ (r0.ar hd t64)
      · omega
    by_cases h7w : w = 7
    · subst h7w
      refine R_aload_n (q := 1) (i := 0) rfl rfl rfl rfl ?_
      refine R_getR (q := 4) rfl rfl rfl rfl rfl (by omega) ?_
      refine R_iload_n (q := 5) (i := 1) rfl rfl rfl rfl ?_
      refine R_cV1I (q := 8) (ci := 4) (C := C_X4_hasCome) rfl rfl rfl rfl rfl ⟨_, _, rfl, hc_pre g h1⟩ rfl (lay0 st15) (by omega) (fun x M' hc => ?_)
      replace hc := hc _ _ rfl
      obtain ⟨hc, rfl⟩ := hc
      replace hc := hc_w g hc
      refine R_if_ne (q := 11) (tgt := 13) rfl rfl (by decide) (by omega) (fun h8 => ?_) (fun h8 => ?_)
      · refine R_aload_n (q := 14) (i := 0) rfl rfl rfl rfl ?_
        refine R_getR (q := 17) rfl rfl rfl rfl rfl (by omega) ?_
        refine R_getR (q := 20) rfl rfl rfl (lay0 st15) rfl (by omega) ?_
        refine R_astore_n (q := 21) (i := 3) rfl rfl rfl rfl ?_
        refine R_iload_n (q := 22) (i := 2) rfl rfl rfl rfl ?_
        refine R_tblIn (q := 76) (off := 117) (tgt := 139) rfl rfl (by omega) (by omega) rfl (by decide) ?_
        refine R_aload_n (q := 140) (i := 3) rfl rfl rfl rfl ?_
        refine R_getR (q := 143) rfl rfl rfl (lay_tk (tkI st15)) rfl (by omega) ?_
        refine R_iload_n (q := 144) (i := 1) rfl rfl rfl rfl ?_
        refine R_iald (q := 145) rfl rfl (lay_ta (tkI st15) rfl) (by omega) (by omega) rfl ?_
        refine R_ret rfl (Or.inl rfl) ?_
        exact done _ (r0.fa hd t64)
      · omega
    by_cases h8w : w = 8
    · subst h8w
      refine R_aload_n (q := 1) (i := 0) rfl rfl rfl rfl ?_
      refine R_getR (q := 4) rfl rfl rfl rfl rfl (by omega) ?_
      refine R_iload_n (q := 5) (i := 1) rfl rfl rfl rfl ?_
      refine R_cV1I (q := 8) (ci := 4) (C := C_X4_hasCome) rfl rfl rfl rfl rfl ⟨_, _, rfl, hc_pre g h1⟩ rfl (lay0 st15) (by omega) (fun x M' hc => ?_)
      replace hc := hc _ _ rfl
      obtain ⟨hc, rfl⟩ := hc
      replace hc := hc_w g hc
      refine R_if_ne (q := 11) (tgt := 13) rfl rfl (by decide) (by omega) (fun h8 => ?_) (fun h8 => ?_)
      · refine R_aload_n (q := 14) (i := 0) rfl rfl rfl rfl ?_
        refine R_getR (q := 17) rfl rfl rfl rfl rfl (by omega) ?_
        refine R_getR (q := 20) rfl rfl rfl (lay0 st15) rfl (by omega) ?_
        refine R_astore_n (q := 21) (i := 3) rfl rfl rfl rfl ?_
        refine R_iload_n (q := 22) (i := 2) rfl rfl rfl rfl ?_
        refine R_tblIn (q := 76) (off := 124) (tgt := 146) rfl rfl (by omega) (by omega) rfl (by decide) ?_
        refine R_aload_n (q := 147) (i := 3) rfl rfl rfl rfl ?_
        refine R_getR (q := 150) rfl rfl rfl (lay_tk (tkI st15)) rfl (by omega) ?_
        refine R_iload_n (q := 151) (i := 1) rfl rfl rfl rfl ?_
        refine R_iald (q := 152) rfl rfl (lay_ta (tkI st15) rfl) (by omega) (by omega) rfl ?_
        refine R_ret rfl (Or.inl rfl) ?_
        exact done _ (r0.fk hd t64)
      · omega
    by_cases h9w : w = 9
    · subst h9w
      refine R_aload_n (q := 1) (i := 0) rfl rfl rfl rfl ?_
      refine R_getR (q := 4) rfl rfl rfl rfl rfl (by omega) ?_
      refine R_iload_n (q := 5) (i := 1) rfl rfl rfl rfl ?_
      refine R_cV1I (q := 8) (ci := 4) (C := C_X4_hasCome) rfl rfl rfl rfl rfl ⟨_, _, rfl, hc_pre g h1⟩ rfl (lay0 st15) (by omega) (fun x M' hc => ?_)
      replace hc := hc _ _ rfl
      obtain ⟨hc, rfl⟩ := hc
      replace hc := hc_w g hc
      refine R_if_ne (q := 11) (tgt := 13) rfl rfl (by decide) (by omega) (fun h8 => ?_) (fun h8 => ?_)
      · refine R_aload_n (q := 14) (i := 0) rfl rfl rfl rfl ?_
        refine R_getR (q := 17) rfl rfl rfl rfl rfl (by omega) ?_
        refine R_getR (q := 20) rfl rfl rfl (lay0 st15) rfl (by omega) ?_
        refine R_astore_n (q := 21) (i := 3) rfl rfl rfl rfl ?_
        refine R_iload_n (q := 22) (i := 2) rfl rfl rfl rfl ?_
        refine R_tblIn (q := 76) (off := 131) (tgt := 153) rfl rfl (by omega) (by omega) rfl (by decide) ?_
        refine R_aload_n (q := 154) (i := 3) rfl rfl rfl rfl ?_
        refine R_getR (q := 157) rfl rfl rfl (lay_tk (tkI st15)) rfl (by omega) ?_
        refine R_iload_n (q := 158) (i := 1) rfl rfl rfl rfl ?_
        refine R_iald (q := 159) rfl rfl (lay_ta (tkI st15) rfl) (by omega) (by omega) rfl ?_
        refine R_ret rfl (Or.inl rfl) ?_
        exact done _ (r0.ho hd t64)
      · omega
    refine R_aload_n (q := 1) (i := 0) rfl rfl rfl rfl ?_
    refine R_getR (q := 4) rfl rfl rfl rfl rfl (by omega) ?_
    refine R_iload_n (q := 5) (i := 1) rfl rfl rfl rfl ?_
    refine R_cV1I (q := 8) (ci := 4) (C := C_X4_hasCome) rfl rfl rfl rfl rfl ⟨_, _, rfl, hc_pre g h1⟩ rfl (lay0 st15) (by omega) (fun x M' hc => ?_)
    replace hc := hc _ _ rfl
    obtain ⟨hc, rfl⟩ := hc
    replace hc := hc_w g hc
    refine R_if_ne (q := 11) (tgt := 13) rfl rfl (by decide) (by omega) (fun h8 => ?_) (fun h8 => ?_)
    · refine R_aload_n (q := 14) (i := 0) rfl rfl rfl rfl ?_
      refine R_getR (q := 17) rfl rfl rfl rfl rfl (by omega) ?_
      refine R_getR (q := 20) rfl rfl rfl (lay0 st15) rfl (by omega) ?_
      refine R_astore_n (q := 21) (i := 3) rfl rfl rfl rfl ?_
      refine R_iload_n (q := 22) (i := 2) rfl rfl rfl rfl ?_
      refine R_tblOut (q := 76) (tgt := 160) rfl rfl (by omega) (by omega) (by decide) ?_
      refine R_bipush (q := 162) rfl rfl (by decide) ?_
      refine R_ret rfl (Or.inl rfl) ?_
      exact done _ (trV_d (by omega)).symm
    · omega
  · refine R_aload_n (q := 1) (i := 0) rfl rfl rfl rfl ?_
    refine R_getR (q := 4) rfl rfl rfl rfl rfl (by omega) ?_
    refine R_iload_n (q := 5) (i := 1) rfl rfl rfl rfl ?_
    refine R_cV1I (q := 8) (ci := 4) (C := C_X4_hasCome) rfl rfl rfl rfl rfl ⟨_, _, rfl, hc_pre g h1⟩ rfl (lay0 st15) (by omega) (fun x M' hc => ?_)
    replace hc := hc _ _ rfl
    obtain ⟨hc, rfl⟩ := hc
    replace hc := hc_w g hc
    refine R_if_ne (q := 11) (tgt := 13) rfl rfl (by decide) (by omega) (fun h8 => ?_) (fun h8 => ?_)
    · omega
    · refine R_iconst (q := 12) rfl rfl ?_
      refine R_ret rfl (Or.inl rfl) ?_
      exact Bo_sm g SmC.rf (fun y N q => by
        obtain ⟨rfl, ⟨_, q⟩ | ⟨q, _⟩⟩ := q 11 t w rfl
        · exact ⟨q.symm, SmR.rf⟩
        · exact absurd q hd)
set_option maxRecDepth 100000 in
theorem mt_X6_trunk : MtOK yX6_trunk cX6_trunk 4 (some .int) 3 C_X6_trunk := by
  refine mt_of sx_X6_trunk (by decide +kernel) (Or.inl ⟨rfl, rfl, rfl⟩) (by decide +kernel) fdX6_ok kLX6_ok kIX6_ok sgX6_ok ntX6_ok
    (all_cons (clokV mt_X4_hasCome rfl (GT_at 459 (by decide +kernel) (by decide +kernel)) (GT_at 12 (by decide +kernel) (by decide +kernel)) (GT_at 367 (by decide +kernel) (by decide +kernel)) (by decide +kernel) (by decide) (GT_at 365 (by decide +kernel) (by decide +kernel)) (GT_at 366 (by decide +kernel) (by decide +kernel)) rfl rfl) (all_cons (clokV mt_X4_deskOf rfl (GT_at 387 (by decide +kernel) (by decide +kernel)) (GT_at 12 (by decide +kernel) (by decide +kernel)) (GT_at 390 (by decide +kernel) (by decide +kernel)) (by decide +kernel) (by decide) (GT_at 388 (by decide +kernel) (by decide +kernel)) (GT_at 389 (by decide +kernel) (by decide +kernel)) rfl rfl) (all_cons (clokV mt_X4_placeOf rfl (GT_at 460 (by decide +kernel) (by decide +kernel)) (GT_at 12 (by decide +kernel) (by decide +kernel)) (GT_at 463 (by decide +kernel) (by decide +kernel)) (by decide +kernel) (by decide) (GT_at 461 (by decide +kernel) (by decide +kernel)) (GT_at 462 (by decide +kernel) (by decide +kernel)) rfl rfl) (all_cons (clokV mt_X4_doubtOf rfl (GT_at 369 (by decide +kernel) (by decide +kernel)) (GT_at 12 (by decide +kernel) (by decide +kernel)) (GT_at 372 (by decide +kernel) (by decide +kernel)) (by decide +kernel) (by decide) (GT_at 370 (by decide +kernel) (by decide +kernel)) (GT_at 371 (by decide +kernel) (by decide +kernel)) rfl rfl) (all_cons (clokV mt_X5_disagreements rfl (GT_at 465 (by decide +kernel) (by decide +kernel)) (GT_at 14 (by decide +kernel) (by decide +kernel)) (GT_at 468 (by decide +kernel) (by decide +kernel)) (by decide +kernel) (by decide) (GT_at 466 (by decide +kernel) (by decide +kernel)) (GT_at 467 (by decide +kernel) (by decide +kernel)) rfl rfl) (all_nil)))))) ?_ ?_
  · rintro as M - ⟨o, t, w, rfl, hp⟩
    exact Nat.le_of_ble_eq_true rfl
  · rintro L scr as M - ⟨o, t, w, rfl, hp⟩
    exact Runs.mono (fun x M' h _ _ _ e => by cases e; exact h) (ok_X6_trunk L scr o t w M hp)
abbrev C_X6_alike : Ct := (3, true, fun as M => ∃ (o : Nat) (t : Int) (w : Int), as = [wR o, wI t, wI w] ∧ (o = 3 ∧ GI M ∧ inr t ∧ inr w), fun as M x M' => ∀ (o : Nat) (t : Int) (w : Int), as = [wR o, wI t, wI w] → (Bo C_X7_alike [wR 11, wI t, wI w] M M' x))
def sx_X6_alike : Sx := (tb_X6_alike, fdX6, kLX6, kIX6, sgX6, ntX6, [(140, (4, C_X4_hasCome)), (149, (5, C_X5_disagreements)), (165, (5, C_X5_sumBeyond))], 1)
set_option maxRecDepth 100000 in
set_option maxHeartbeats 1000000 in
theorem ok_X6_alike (L : Nat) (scr : Int → Int) (o : Nat) (t : Int) (w : Int) (M : Mem) (hp : o = 3 ∧ GI M ∧ inr t ∧ inr w) : Runs sx_X6_alike L (xcF scr) (fun x M' => Bo C_X7_alike [wR 11, wI t, wI w] M M' x) 0 [wR o, wI t, wI w, none] [] M := by
  obtain ⟨rfl, g, h1, h2⟩ := hp
  have r0 := g.1.1
  have I := g.2.1.1
  have i7 := g.i7
  have e7 : M 26 0 = M 12 7 := r0.ca
  have e4 : M 16 4 = M 12 4 := r0.st (k := 4) (by omega)
  by_cases hd : 0 ≤ t ∧ t < M 12 7
  · have e2 : (0 ≤ t ∧ t < M 26 0) := by omega
    have dn : ∀ x, (w = 0 ∨ w = 1) → x = bt_ (msk (M 12) t = 0) 1 → Bo C_X7_alike [wR 11, wI t, wI w] M M x := fun x hw e => Bo_sm g SmC.rf (fun y N q => by
      obtain ⟨rfl, ⟨q, _⟩ | ⟨_, _, q⟩ | ⟨_, q, _⟩⟩ := q 11 t w rfl
      · exact absurd hd q
      · exact ⟨e.trans q.symm, SmR.rf⟩
      · exact absurd hw q)
    by_cases h0 : w = 0
    · subst h0
      refine R_aload_n (q := 1) (i := 0) rfl rfl rfl rfl ?_
      refine R_getR (q := 4) rfl rfl rfl rfl rfl (by omega) ?_
      refine R_iload_n (q := 5) (i := 1) rfl rfl rfl rfl ?_
      refine R_cV1I (q := 8) (ci := 4) (C := C_X4_hasCome) rfl rfl rfl rfl rfl ⟨_, _, rfl, hc_pre g h1⟩ rfl (lay0 st15) (by omega) (fun x M' hc => ?_)
      replace hc := hc _ _ rfl
      obtain ⟨hc, rfl⟩ := hc
      replace hc := hc_w g hc
      refine R_if_ne (q := 11) (tgt := 13) rfl rfl (by decide) (by omega) (fun h8 => ?_) (fun h8 => ?_)
      · refine R_aload_n (q := 14) (i := 0) rfl rfl rfl rfl ?_
        refine R_getR (q := 17) rfl rfl rfl rfl rfl (by omega) ?_
        refine R_getR (q := 20) rfl rfl rfl (lay0 st15) rfl (by omega) ?_
        refine R_iconst (q := 21) rfl rfl ?_
        refine R_iald (q := 22) (v := M 12 4) rfl rfl (layi st15 rfl) (by omega) (by omega) e4 ?_
        refine R_istore_n (q := 23) (i := 3) rfl rfl rfl rfl ?_
        refine R_iload_n (q := 24) (i := 2) rfl rfl rfl rfl ?_
        refine R_lookup (q := 52) (off := 28) (tgt := 52) rfl rfl (by omega) (by decide) rfl (by decide) ?_
        refine R_aload_n (q := 53) (i := 0) rfl rfl rfl rfl ?_
        refine R_getR (q := 56) rfl rfl rfl rfl rfl (by omega) ?_
        refine R_getR (q := 59) rfl rfl rfl (lay0 st15) rfl (by omega) ?_
        refine R_iload_n (q := 60) (i := 1) rfl rfl rfl rfl ?_
        refine R_iload_n (q := 61) (i := 3) rfl rfl rfl rfl ?_
        refine R_gh (M 12) ?_
        refine R_cV2I (q := 64) (ci := 5) (C := C_X5_disagreements) rfl rfl rfl rfl rfl ⟨_, _, _, rfl, ⟨tkI st15, by omega, g.2.1.1.1.1.2.2.2.2.1, by rw [gho_g], pp_gh st15 r0 I hd⟩⟩ rfl (lay_tk (tkI st15)) (by omega) (fun x M' hc => ?_)
        replace hc := hc _ _ _ rfl
        obtain ⟨hc, rfl⟩ := hc
        simp only [gho_g] at hc
        subst hc
        refine R_un ?_
        refine R_if_ne (q := 67) (tgt := 71) rfl rfl (by decide) (by have := msk_bd (M 12) t; omega) (fun h64 => ?_) (fun h64 => ?_)
        · refine R_iconst (q := 72) rfl rfl ?_
          refine R_ret rfl (Or.inl rfl) ?_
          exact dn _ (by omega) (by first | exact (bt_t (by omega)).symm | exact (bt_f (by omega)).symm)
        · refine R_iconst (q := 68) rfl rfl ?_
          refine R_goto (q := 71) (tgt := 72) rfl rfl (by decide) ?_
          refine R_ret rfl (Or.inl rfl) ?_
          exact dn _ (by omega) (by first | exact (bt_t (by omega)).symm | exact (bt_f (by omega)).symm)
      · omega
    · by_cases h1w : w = 1
      · subst h1w
        refine R_aload_n (q := 1) (i := 0) rfl rfl rfl rfl ?_
        refine R_getR (q := 4) rfl rfl rfl rfl rfl (by omega) ?_
        refine R_iload_n (q := 5) (i := 1) rfl rfl rfl rfl ?_
        refine R_cV1I (q := 8) (ci := 4) (C := C_X4_hasCome) rfl rfl rfl rfl rfl ⟨_, _, rfl, hc_pre g h1⟩ rfl (lay0 st15) (by omega) (fun x M' hc => ?_)
        replace hc := hc _ _ rfl
        obtain ⟨hc, rfl⟩ := hc
        replace hc := hc_w g hc
        refine R_if_ne (q := 11) (tgt := 13) rfl rfl (by decide) (by omega) (fun h8 => ?_) (fun h8 => ?_)
        · refine R_aload_n (q := 14) (i := 0) rfl rfl rfl rfl ?_
          refine R_getR (q := 17) rfl rfl rfl rfl rfl (by omega) ?_
          refine R_getR (q := 20) rfl rfl rfl (lay0 st15) rfl (by omega) ?_
          refine R_iconst (q := 21) rfl rfl ?_
          refine R_iald (q := 22) (v := M 12 4) rfl rfl (layi st15 rfl) (by omega) (by omega) e4 ?_
          refine R_istore_n (q := 23) (i := 3) rfl rfl rfl rfl ?_
          refine R_iload_n (q := 24) (i := 2) rfl rfl rfl rfl ?_
          refine R_lookup (q := 52) (off := 49) (tgt := 73) rfl rfl (by omega) (by decide) rfl (by decide) ?_
          refine R_aload_n (q := 74) (i := 0) rfl rfl rfl rfl ?_
          refine R_getR (q := 77) rfl rfl rfl rfl rfl (by omega) ?_
          refine R_getR (q := 80) rfl rfl rfl (lay0 st15) rfl (by omega) ?_
          refine R_iload_n (q := 81) (i := 1) rfl rfl rfl rfl ?_
          refine R_iload_n (q := 82) (i := 3) rfl rfl rfl rfl ?_
          refine R_gh (M 12) ?_
          refine R_cV2I (q := 85) (ci := 5) (C := C_X5_sumBeyond) rfl rfl rfl rfl rfl ⟨_, _, _, rfl, ⟨tkI st15, by omega, g.2.1.1.1.1.2.2.2.2.1, by rw [gho_g], pp_gh st15 r0 I hd⟩⟩ rfl (lay_tk (tkI st15)) (by omega) (fun x M' hc => ?_)
          replace hc := hc _ _ _ rfl
          obtain ⟨⟨b0, b1, b2⟩, rfl⟩ := hc
          rw [gho_g] at b2
          refine R_un ?_
          refine R_if_ne (q := 88) (tgt := 92) rfl rfl (by decide) (by omega) (fun h85 => ?_) (fun h85 => ?_)
          · refine R_iconst (q := 93) rfl rfl ?_
            refine R_ret rfl (Or.inl rfl) ?_
            exact dn _ (by omega) (by first | exact (bt_t (by omega)).symm | exact (bt_f (by omega)).symm)
          · refine R_iconst (q := 89) rfl rfl ?_
            refine R_goto (q := 92) (tgt := 93) rfl rfl (by decide) ?_
            refine R_ret rfl (Or.inl rfl) ?_
            exact dn _ (by omega) (by first | exact (bt_t (by omega)).symm | exact (bt_f (by omega)).symm)
        · omega
      · refine R_aload_n (q := 1) (i := 0) rfl rfl rfl rfl ?_
        refine R_getR (q := 4) rfl rfl rfl rfl rfl (by omega) ?_
        refine R_iload_n (q := 5) (i := 1) rfl rfl rfl rfl ?_
        refine R_cV1I (q := 8) (ci := 4) (C := C_X4_hasCome) rfl rfl rfl rfl rfl ⟨_, _, rfl, hc_pre g h1⟩ rfl (lay0 st15) (by omega) (fun x M' hc => ?_)
        replace hc := hc _ _ rfl
        obtain ⟨hc, rfl⟩ := hc
        replace hc := hc_w g hc
        refine R_if_ne (q := 11) (tgt := 13) rfl rfl (by decide) (by omega) (fun h8 => ?_) (fun h8 => ?_)
        · refine R_aload_n (q := 14) (i := 0) rfl rfl rfl rfl ?_
          refine R_getR (q := 17) rfl rfl rfl rfl rfl (by omega) ?_
          refine R_getR (q := 20) rfl rfl rfl (lay0 st15) rfl (by omega) ?_
          refine R_iconst (q := 21) rfl rfl ?_
          refine R_iald (q := 22) (v := M 12 4) rfl rfl (layi st15 rfl) (by omega) (by omega) e4 ?_
          refine R_istore_n (q := 23) (i := 3) rfl rfl rfl rfl ?_
          refine R_iload_n (q := 24) (i := 2) rfl rfl rfl rfl ?_
          refine R_lookup (q := 52) (off := 70) (tgt := 94) rfl rfl (by omega) (by decide) (by show (if (0 : Int) = w then (28 : Int) else if (1 : Int) = w then 49 else 70) = 70; rw [if_neg (Ne.symm h0), if_neg (Ne.symm h1w)]) (by decide) ?_
          refine R_bipush (q := 96) rfl rfl (by decide) ?_
          refine R_ret rfl (Or.inl rfl) ?_
          exact Bo_sm g SmC.rf (fun y N q => by
            obtain ⟨rfl, ⟨q, _⟩ | ⟨_, q, _⟩ | ⟨_, _, q⟩⟩ := q 11 t w rfl
            · exact absurd hd q
            · omega
            · exact ⟨q.symm, SmR.rf⟩)
        · omega
  · refine R_aload_n (q := 1) (i := 0) rfl rfl rfl rfl ?_
    refine R_getR (q := 4) rfl rfl rfl rfl rfl (by omega) ?_
    refine R_iload_n (q := 5) (i := 1) rfl rfl rfl rfl ?_
    refine R_cV1I (q := 8) (ci := 4) (C := C_X4_hasCome) rfl rfl rfl rfl rfl ⟨_, _, rfl, hc_pre g h1⟩ rfl (lay0 st15) (by omega) (fun x M' hc => ?_)
    replace hc := hc _ _ rfl
    obtain ⟨hc, rfl⟩ := hc
    replace hc := hc_w g hc
    refine R_if_ne (q := 11) (tgt := 13) rfl rfl (by decide) (by omega) (fun h8 => ?_) (fun h8 => ?_)
    · omega
    · refine R_iconst (q := 12) rfl rfl ?_
      refine R_ret rfl (Or.inl rfl) ?_
      exact Bo_sm g SmC.rf (fun y N q => by
        obtain ⟨rfl, ⟨_, q⟩ | ⟨q, _⟩ | ⟨q, _⟩⟩ := q 11 t w rfl
        · exact ⟨q.symm, SmR.rf⟩
        · exact absurd q hd
        · exact absurd q hd)
set_option maxRecDepth 100000 in
theorem mt_X6_alike : MtOK yX6_alike cX6_alike 4 (some .int) 3 C_X6_alike := by
  refine mt_of sx_X6_alike (by decide +kernel) (Or.inl ⟨rfl, rfl, rfl⟩) (by decide +kernel) fdX6_ok kLX6_ok kIX6_ok sgX6_ok ntX6_ok
    (all_cons (clokV mt_X4_hasCome rfl (GT_at 459 (by decide +kernel) (by decide +kernel)) (GT_at 12 (by decide +kernel) (by decide +kernel)) (GT_at 367 (by decide +kernel) (by decide +kernel)) (by decide +kernel) (by decide) (GT_at 365 (by decide +kernel) (by decide +kernel)) (GT_at 366 (by decide +kernel) (by decide +kernel)) rfl rfl) (all_cons (clokV mt_X5_disagreements rfl (GT_at 465 (by decide +kernel) (by decide +kernel)) (GT_at 14 (by decide +kernel) (by decide +kernel)) (GT_at 468 (by decide +kernel) (by decide +kernel)) (by decide +kernel) (by decide) (GT_at 466 (by decide +kernel) (by decide +kernel)) (GT_at 467 (by decide +kernel) (by decide +kernel)) rfl rfl) (all_cons (clokV mt_X5_sumBeyond rfl (GT_at 479 (by decide +kernel) (by decide +kernel)) (GT_at 14 (by decide +kernel) (by decide +kernel)) (GT_at 482 (by decide +kernel) (by decide +kernel)) (by decide +kernel) (by decide) (GT_at 480 (by decide +kernel) (by decide +kernel)) (GT_at 481 (by decide +kernel) (by decide +kernel)) rfl rfl) (all_nil)))) ?_ ?_
  · rintro as M - ⟨o, t, w, rfl, hp⟩
    exact Nat.le_of_ble_eq_true rfl
  · rintro L scr as M - ⟨o, t, w, rfl, hp⟩
    exact Runs.mono (fun x M' h _ _ _ e => by cases e; exact h) (ok_X6_alike L scr o t w M hp)
abbrev C_X6_pieces : Ct := (4, true, fun as M => ∃ (o : Nat) (t : Int) (w : Int) (k : Int), as = [wR o, wI t, wI w, wI k] ∧ (o = 3 ∧ GI M ∧ inr t ∧ inr w ∧ inr k), fun as M x M' => ∀ (o : Nat) (t : Int) (w : Int) (k : Int), as = [wR o, wI t, wI w, wI k] → (Bo C_X7_pieces [wR 11, wI t, wI w, wI k] M M' x))
def sx_X6_pieces : Sx := (tb_X6_pieces, fdX6, kLX6, kIX6, sgX6, ntX6, [(140, (4, C_X4_hasCome)), (41, (9, C_X6_isWithin)), (162, (9, C_X3_piecesOf))], 1)
set_option maxRecDepth 100000 in
set_option maxHeartbeats 1000000 in
theorem ok_X6_pieces (L : Nat) (scr : Int → Int) (o : Nat) (t : Int) (w : Int) (k : Int) (M : Mem) (hp : o = 3 ∧ GI M ∧ inr t ∧ inr w ∧ inr k) : Runs sx_X6_pieces L (xcF scr) (fun x M' => Bo C_X7_pieces [wR 11, wI t, wI w, wI k] M M' x) 0 [wR o, wI t, wI w, wI k] [] M := by
  obtain ⟨rfl, g, h1, h2, h3⟩ := hp
  have r0 := g.1.1
  have I := g.2.1.1
  have i7 := g.i7
  have e7 : M 26 0 = M 12 7 := r0.ca
  by_cases hd : 0 ≤ t ∧ t < M 12 7
  · have e2 : (0 ≤ t ∧ t < M 26 0) := by omega
    refine R_aload_n (q := 1) (i := 0) rfl rfl rfl rfl ?_
    refine R_getR (q := 4) rfl rfl rfl rfl rfl (by omega) ?_
    refine R_iload_n (q := 5) (i := 1) rfl rfl rfl rfl ?_
    refine R_cV1I (q := 8) (ci := 4) (C := C_X4_hasCome) rfl rfl rfl rfl rfl ⟨_, _, rfl, hc_pre g h1⟩ rfl (lay0 st15) (by omega) (fun x M' hc => ?_)
    replace hc := hc _ _ rfl
    obtain ⟨hc, rfl⟩ := hc
    replace hc := hc_w g hc
    refine R_if_eq (q := 11) (tgt := 20) rfl rfl (by decide) (by omega) (fun h8 => ?_) (fun h8 => ?_)
    · omega
    · refine R_iload_n (q := 12) (i := 3) rfl rfl rfl rfl ?_
      refine R_iconst (q := 13) rfl rfl ?_
      refine R_iconst (q := 14) rfl rfl ?_
      refine R_cS3I (q := 17) (ci := 9) (C := C_X6_isWithin) rfl rfl rfl rfl rfl ⟨_, _, _, rfl, (by first | trivial | assumption | omega)⟩ rfl rfl (fun x M' hc => ?_)
      replace hc := hc _ _ _ rfl
      obtain ⟨w14, rfl⟩ := hc
      refine R_if_ne (q := 20) (tgt := 22) rfl rfl (by decide) (by omega) (fun h17 => ?_) (fun h17 => ?_)
      · refine R_iload_n (q := 23) (i := 2) rfl rfl rfl rfl ?_
        refine R_iconst (q := 24) rfl rfl ?_
        refine R_iconst (q := 25) rfl rfl ?_
        refine R_cS3I (q := 28) (ci := 9) (C := C_X6_isWithin) rfl rfl rfl rfl rfl ⟨_, _, _, rfl, (by first | trivial | assumption | omega)⟩ rfl rfl (fun x M' hc => ?_)
        replace hc := hc _ _ _ rfl
        obtain ⟨w25, rfl⟩ := hc
        refine R_if_ne (q := 31) (tgt := 34) rfl rfl (by decide) (by omega) (fun h28 => ?_) (fun h28 => ?_)
        · have hw : 0 ≤ w ∧ w < 3 := by omega
          have ep : M (29 + w.toNat) t = nib (M 12 (87 + 9 * t + w)) := by
            obtain ⟨p0, p1, p2⟩ := r0.p3 hd (by omega)
            have : w = 0 ∨ w = 1 ∨ w = 2 := by omega
            rcases this with rfl | rfl | rfl
            · rw [Int.add_zero]
              exact p0
            · rw [show 87 + 9 * t + 1 = 88 + 9 * t by omega]
              exact p1
            · rw [show 87 + 9 * t + 2 = 89 + 9 * t by omega]
              exact p2
          have bd : 0 ≤ M 12 (87 + 9 * t + w) := by
            obtain ⟨-, c1, c2, c3⟩ := I.1.2.2.2 t hd.1 (by omega)
            have : w = 0 ∨ w = 1 ∨ w = 2 := by omega
            rcases this with rfl | rfl | rfl
            · rw [Int.add_zero]
              exact c1.1
            · rw [show 87 + 9 * t + 1 = 88 + 9 * t by omega]
              exact c2.1
            · rw [show 87 + 9 * t + 2 = 89 + 9 * t by omega]
              exact c3.1
          have hl : LAY L (29 + w.toNat) = .inr (.inl (0, 64)) := by
            have : w = 0 ∨ w = 1 ∨ w = 2 := by omega
            rcases this with rfl | rfl | rfl <;> rfl
          refine R_aload_n (q := 35) (i := 0) rfl rfl rfl rfl ?_
          refine R_getR (q := 38) rfl rfl rfl rfl rfl (by omega) ?_
          refine R_getR (q := 41) rfl rfl rfl (lay0 st15) rfl (by omega) ?_
          refine R_getR (q := 44) rfl rfl rfl (lay_tk (tkI st15)) rfl (by omega) ?_
          refine R_iload_n (q := 45) (i := 2) rfl rfl rfl rfl ?_
          refine R_aald (q := 46) (r2 := 29 + w.toNat) rfl rfl (lay_tp (tkI st15)) (by omega) (by omega) rfl ?_
          refine R_iload_n (q := 47) (i := 1) rfl rfl rfl rfl ?_
          refine R_iald (q := 48) (v := nib (M 12 (87 + 9 * t + w))) rfl rfl hl (by omega) (by omega) ep ?_
          refine R_iload_n (q := 49) (i := 3) rfl rfl rfl rfl ?_
          refine R_cS2I (q := 52) (ci := 9) (C := C_X3_piecesOf) rfl rfl rfl rfl rfl ⟨_, _, rfl, ⟨nib_bd bd, by omega⟩⟩ rfl rfl (fun x M' hc => ?_)
          replace hc := hc _ _ rfl
          obtain ⟨rfl, rfl⟩ := hc
          refine R_ret rfl (Or.inl rfl) ?_
          exact Bo_sm g SmC.rf (fun y N q => by
            obtain ⟨rfl, q1⟩ := q 11 t w k rfl
            rw [nib_dig bd (by omega)]
            unfold hasT at q1
            exact ⟨by omega, SmR.rf⟩)
        · refine R_bipush (q := 33) rfl rfl (by decide) ?_
          refine R_ret rfl (Or.inl rfl) ?_
          exact Bo_sm g SmC.rf (fun y N q => by
            obtain ⟨rfl, q1⟩ := q 11 t w k rfl
            unfold hasT at q1
            exact ⟨by omega, SmR.rf⟩)
      · refine R_iconst (q := 21) rfl rfl ?_
        refine R_ret rfl (Or.inl rfl) ?_
        exact Bo_sm g SmC.rf (fun y N q => by
          obtain ⟨rfl, q1⟩ := q 11 t w k rfl
          unfold hasT at q1
          exact ⟨by omega, SmR.rf⟩)
  · refine R_aload_n (q := 1) (i := 0) rfl rfl rfl rfl ?_
    refine R_getR (q := 4) rfl rfl rfl rfl rfl (by omega) ?_
    refine R_iload_n (q := 5) (i := 1) rfl rfl rfl rfl ?_
    refine R_cV1I (q := 8) (ci := 4) (C := C_X4_hasCome) rfl rfl rfl rfl rfl ⟨_, _, rfl, hc_pre g h1⟩ rfl (lay0 st15) (by omega) (fun x M' hc => ?_)
    replace hc := hc _ _ rfl
    obtain ⟨hc, rfl⟩ := hc
    replace hc := hc_w g hc
    refine R_if_eq (q := 11) (tgt := 20) rfl rfl (by decide) (by omega) (fun h8 => ?_) (fun h8 => ?_)
    · refine R_iconst (q := 21) rfl rfl ?_
      refine R_ret rfl (Or.inl rfl) ?_
      exact Bo_sm g SmC.rf (fun y N q => by
        obtain ⟨rfl, q1⟩ := q 11 t w k rfl
        unfold hasT at q1
        exact ⟨by omega, SmR.rf⟩)
    · omega
set_option maxRecDepth 100000 in
theorem mt_X6_pieces : MtOK yX6_pieces cX6_pieces 4 (some .int) 1 C_X6_pieces := by
  refine mt_of sx_X6_pieces (by decide +kernel) (Or.inl ⟨rfl, rfl, rfl⟩) (by decide +kernel) fdX6_ok kLX6_ok kIX6_ok sgX6_ok ntX6_ok
    (all_cons (clokV mt_X4_hasCome rfl (GT_at 459 (by decide +kernel) (by decide +kernel)) (GT_at 12 (by decide +kernel) (by decide +kernel)) (GT_at 367 (by decide +kernel) (by decide +kernel)) (by decide +kernel) (by decide) (GT_at 365 (by decide +kernel) (by decide +kernel)) (GT_at 366 (by decide +kernel) (by decide +kernel)) rfl rfl) (all_cons (clokS mt_X6_isWithin (GT_at 282 (by decide +kernel) (by decide +kernel)) (GT_at 11 (by decide +kernel) (by decide +kernel)) (GT_at 284 (by decide +kernel) (by decide +kernel)) (by decide +kernel) (by decide) (GT_at 283 (by decide +kernel) (by decide +kernel))) (all_cons (clokS mt_X3_piecesOf (GT_at 474 (by decide +kernel) (by decide +kernel)) (GT_at 17 (by decide +kernel) (by decide +kernel)) (GT_at 379 (by decide +kernel) (by decide +kernel)) (by decide +kernel) (by decide) (GT_at 378 (by decide +kernel) (by decide +kernel))) (all_nil)))) ?_ ?_
  · rintro as M - ⟨o, t, w, k, rfl, hp⟩
    exact Nat.le_of_ble_eq_true rfl
  · rintro L scr as M - ⟨o, t, w, k, rfl, hp⟩
    exact Runs.mono (fun x M' h _ _ _ _ e => by cases e; exact h) (ok_X6_pieces L scr o t w k M hp)
