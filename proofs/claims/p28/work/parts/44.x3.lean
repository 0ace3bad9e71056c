theorem si_gh {M : Mem} {a : Nat} {f : Int → Int} (ha : isSt a) (h : RelS M a f) (I : Inv f) : SI (gho M f) a := ⟨ha, by rw [gho_g]; exact h.gh ha, by rw [gho_g]; exact I⟩
theorem GI.si {M : Mem} (g : GI M) : SI (gho M (M 12)) 15 := si_gh st15 g.1.1 g.2.1.1
theorem GI.i7 {M : Mem} (g : GI M) : 0 ≤ M 12 7 ∧ M 12 7 ≤ 64 := ⟨g.2.1.1.i7.1, g.2.1.1.i7.2⟩
/-- the number of those with a fate, as the class counts them -/
theorem cF_pre {M : Mem} {a : Nat} {f : Int → Int} (ha : isSt a) (h : RelS M a f) (I : Inv f) {w : Int} (hw : inr w) : isTk (a + 11) ∧ (0 ≤ gho M f (a + 11) 0 ∧ gho M f (a + 11) 0 ≤ 64) ∧ inr w ∧ ∀ t, 0 ≤ t → t < gho M f (a + 11) 0 → gho M f (a + 11 + 8) t = gho M f 200 (90 + 9 * t) ∧ inr (gho M f 200 (90 + 9 * t)) := by
  have hb := id ha
  unfold isSt at hb
  have i7 := I.i7
  rw [gho_r M f (show a + 11 < 191 by omega), gho_r M f (show a + 11 + 8 < 191 by omega), gho_g, h.ca]
  refine ⟨tkI ha, by omega, hw, fun t t0 t1 => ?_⟩
  have := (I.2.2.2.2.2.2.1 t t0 t1).1
  exact ⟨h.fa ⟨t0, t1⟩ (by omega), by omega⟩
theorem cU_pre {M : Mem} {a : Nat} {f : Int → Int} (ha : isSt a) (h : RelS M a f) (I : Inv f) : isTk (a + 11) ∧ (0 ≤ gho M f (a + 11) 0 ∧ gho M f (a + 11) 0 ≤ 64) ∧ ∀ t, 0 ≤ t → t < gho M f (a + 11) 0 → (gho M f (a + 11 + 8) t = gho M f 200 (90 + 9 * t) ∧ inr (gho M f 200 (90 + 9 * t))) ∧ gho M f (a + 11 + 9) t = gho M f 200 (93 + 9 * t) ∧ inr (gho M f 200 (93 + 9 * t)) := by
  have hb := id ha
  unfold isSt at hb
  have i7 := I.i7
  rw [gho_r M f (show a + 11 < 191 by omega), gho_r M f (show a + 11 + 8 < 191 by omega), gho_r M f (show a + 11 + 9 < 191 by omega), gho_g, h.ca]
  refine ⟨tkI ha, by omega, fun t t0 t1 => ?_⟩
  have := I.2.2.2.2.2.2.1 t t0 t1
  exact ⟨⟨h.fa ⟨t0, t1⟩ (by omega), by omega⟩, h.fk ⟨t0, t1⟩ (by omega), by omega⟩
abbrev C_X6_count : Ct := (2, true, fun as M => ∃ (o : Nat) (w : Int), as = [wR o, wI w] ∧ (o = 3 ∧ GI M ∧ inr w), fun as M x M' => ∀ (o : Nat) (w : Int), as = [wR o, wI w] → (Bo C_X7_count [wR 11, wI w] M M' x))
def sx_X6_count : Sx := (tb_X6_count, fdX6, kLX6, kIX6, sgX6, ntX6, [(41, (9, C_X6_isWithin)), (79, (4, C_X4_waitingTrunks)), (180, (5, C_X5_countWithFate)), (192, (4, C_X4_taken)), (195, (5, C_X5_countOpenedUnfined))], 1)
set_option maxRecDepth 100000 in
set_option maxHeartbeats 1000000 in
theorem ok_X6_count (L : Nat) (scr : Int → Int) (o : Nat) (w : Int) (M : Mem) (hp : o = 3 ∧ GI M ∧ inr w) : Runs sx_X6_count L (xcF scr) (fun x M' => Bo C_X7_count [wR 11, wI w] M M' x) 0 [wR o, wI w] [] M := by
  obtain ⟨rfl, g, h1⟩ := hp
  have done : ∀ x, x = cnV M (M 12) w → Bo C_X7_count [wR 11, wI w] M M x := fun x e => Bo_sm g SmC.rf (fun y N q => by
    obtain ⟨rfl, rfl⟩ := q 11 w rfl
    exact ⟨e, SmR.rf⟩)
  have r0 := g.1.1
  have I := g.2.1.1
  have i7 := g.i7
  have i11 : M 12 8 = cF (M 12) 1 (M 12 7).toNat ∧ M 12 9 = cF (M 12) 2 (M 12 7).toNat ∧ M 12 10 = cF (M 12) 3 (M 12 7).toNat ∧ M 12 14 = cU (M 12) (M 12 7).toNat := I.2.2.2.2.2.2.2
  by_cases hz : 0 ≤ w ∧ w ≤ 5
  · refine R_iload_n (q := 1) (i := 1) rfl rfl rfl rfl ?_
    refine R_iconst (q := 2) rfl rfl ?_
    refine R_iconst (q := 3) rfl rfl ?_
    refine R_cS3I (q := 6) (ci := 9) (C := C_X6_isWithin) rfl rfl rfl rfl rfl ⟨_, _, _, rfl, (by first | trivial | assumption | omega)⟩ rfl rfl (fun x M' hc => ?_)
    replace hc := hc _ _ _ rfl
    obtain ⟨w3, rfl⟩ := hc
    refine R_if_eq (q := 9) (tgt := 19) rfl rfl (by decide) (by omega) (fun h6 => ?_) (fun h6 => ?_)
    · omega
    · refine R_aload_n (q := 10) (i := 0) rfl rfl rfl rfl ?_
      refine R_getR (q := 13) rfl rfl rfl rfl rfl (by omega) ?_
      refine R_getR (q := 16) rfl rfl rfl (lay0 st15) rfl (by omega) ?_
      refine R_iload_n (q := 17) (i := 1) rfl rfl rfl rfl ?_
      refine R_iald (q := 18) rfl rfl (layi st15 rfl) (by omega) (by omega) rfl ?_
      refine R_ret rfl (Or.inl rfl) ?_
      exact done _ (by unfold cnV; rw [if_pos (by omega)]; exact r0.st (by omega))
  by_cases h6w : w = 6
  · subst h6w
    refine R_iload_n (q := 1) (i := 1) rfl rfl rfl rfl ?_
    refine R_iconst (q := 2) rfl rfl ?_
    refine R_iconst (q := 3) rfl rfl ?_
    refine R_cS3I (q := 6) (ci := 9) (C := C_X6_isWithin) rfl rfl rfl rfl rfl ⟨_, _, _, rfl, (by first | trivial | assumption | omega)⟩ rfl rfl (fun x M' hc => ?_)
    replace hc := hc _ _ _ rfl
    obtain ⟨w3, rfl⟩ := hc
    refine R_if_eq (q := 9) (tgt := 19) rfl rfl (by decide) (by omega) (fun h6 => ?_) (fun h6 => ?_)
    · refine R_iload_n (q := 20) (i := 1) rfl rfl rfl rfl ?_
      refine R_tblIn (q := 88) (off := 68) (tgt := 88) rfl rfl (by omega) (by omega) rfl (by decide) ?_
      refine R_aload_n (q := 89) (i := 0) rfl rfl rfl rfl ?_
      refine R_getR (q := 92) rfl rfl rfl rfl rfl (by omega) ?_
      refine R_getI (q := 95) (k1 := 5) rfl rfl rfl (lay0 st15) rfl (by omega) rfl ?_
      refine R_ret rfl (Or.inl rfl) ?_
      exact done _ r0.tm
    · omega
  by_cases h7w : w = 7
  · subst h7w
    refine R_iload_n (q := 1) (i := 1) rfl rfl rfl rfl ?_
    refine R_iconst (q := 2) rfl rfl ?_
    refine R_iconst (q := 3) rfl rfl ?_
    refine R_cS3I (q := 6) (ci := 9) (C := C_X6_isWithin) rfl rfl rfl rfl rfl ⟨_, _, _, rfl, (by first | trivial | assumption | omega)⟩ rfl rfl (fun x M' hc => ?_)
    replace hc := hc _ _ _ rfl
    obtain ⟨w3, rfl⟩ := hc
    refine R_if_eq (q := 9) (tgt := 19) rfl rfl (by decide) (by omega) (fun h6 => ?_) (fun h6 => ?_)
    · refine R_iload_n (q := 20) (i := 1) rfl rfl rfl rfl ?_
      refine R_tblIn (q := 88) (off := 76) (tgt := 96) rfl rfl (by omega) (by omega) rfl (by decide) ?_
      refine R_aload_n (q := 97) (i := 0) rfl rfl rfl rfl ?_
      refine R_getR (q := 100) rfl rfl rfl rfl rfl (by omega) ?_
      refine R_getR (q := 103) rfl rfl rfl (lay0 st15) rfl (by omega) ?_
      refine R_getI (q := 106) (k1 := 0) rfl rfl rfl (lay_tk (tkI st15)) rfl (by omega) rfl ?_
      refine R_ret rfl (Or.inl rfl) ?_
      exact done _ r0.ca
    · omega
  by_cases h8w : w = 8
  · subst h8w
    refine R_iload_n (q := 1) (i := 1) rfl rfl rfl rfl ?_
    refine R_iconst (q := 2) rfl rfl ?_
    refine R_iconst (q := 3) rfl rfl ?_
    refine R_cS3I (q := 6) (ci := 9) (C := C_X6_isWithin) rfl rfl rfl rfl rfl ⟨_, _, _, rfl, (by first | trivial | assumption | omega)⟩ rfl rfl (fun x M' hc => ?_)
    replace hc := hc _ _ _ rfl
    obtain ⟨w3, rfl⟩ := hc
    refine R_if_eq (q := 9) (tgt := 19) rfl rfl (by decide) (by omega) (fun h6 => ?_) (fun h6 => ?_)
    · refine R_iload_n (q := 20) (i := 1) rfl rfl rfl rfl ?_
      refine R_tblIn (q := 88) (off := 87) (tgt := 107) rfl rfl (by omega) (by omega) rfl (by decide) ?_
      refine R_aload_n (q := 108) (i := 0) rfl rfl rfl rfl ?_
      refine R_getR (q := 111) rfl rfl rfl rfl rfl (by omega) ?_
      refine R_cV0I (q := 114) (ci := 4) (C := C_X4_waitingTrunks) rfl rfl rfl rfl rfl ⟨_, rfl, st15⟩ rfl (lay0 st15) (by omega) (fun x M' hc => ?_)
      replace hc := hc _ rfl
      obtain ⟨rfl, rfl⟩ := hc
      refine R_ret rfl (Or.inl rfl) ?_
      exact done _ (by rw [show cnV M (M 12) 8 = M 12 27 + M 12 31 + M 12 35 from rfl]; exact congr (congrArg HAdd.hAdd (congr (congrArg HAdd.hAdd (r0.wa (d := 0) (by omega))) (r0.wa (d := 1) (by omega)))) (r0.wa (d := 2) (by omega)))
    · omega
  by_cases h9w : w = 9
  · subst h9w
    refine R_iload_n (q := 1) (i := 1) rfl rfl rfl rfl ?_
    refine R_iconst (q := 2) rfl rfl ?_
    refine R_iconst (q := 3) rfl rfl ?_
    refine R_cS3I (q := 6) (ci := 9) (C := C_X6_isWithin) rfl rfl rfl rfl rfl ⟨_, _, _, rfl, (by first | trivial | assumption | omega)⟩ rfl rfl (fun x M' hc => ?_)
    replace hc := hc _ _ _ rfl
    obtain ⟨w3, rfl⟩ := hc
    refine R_if_eq (q := 9) (tgt := 19) rfl rfl (by decide) (by omega) (fun h6 => ?_) (fun h6 => ?_)
    · refine R_iload_n (q := 20) (i := 1) rfl rfl rfl rfl ?_
      refine R_tblIn (q := 88) (off := 95) (tgt := 115) rfl rfl (by omega) (by omega) rfl (by decide) ?_
      refine R_aload_n (q := 116) (i := 0) rfl rfl rfl rfl ?_
      refine R_getR (q := 119) rfl rfl rfl rfl rfl (by omega) ?_
      refine R_getR (q := 122) rfl rfl rfl (lay0 st15) rfl (by omega) ?_
      refine R_iconst (q := 123) rfl rfl ?_
      refine R_gh (M 12) ?_
      refine R_cV1I (q := 126) (ci := 5) (C := C_X5_countWithFate) rfl rfl rfl rfl rfl ⟨_, _, rfl, cF_pre st15 r0 I (by omega)⟩ rfl (lay_tk (tkI st15)) (by omega) (fun x M' hc => ?_)
      replace hc := hc _ _ rfl
      obtain ⟨hc, rfl⟩ := hc
      rw [gho_g, gho_r M (M 12) (show (26 : Nat) < 191 by decide), show M 26 0 = M 12 7 from r0.ca] at hc
      subst hc
      refine R_un ?_
      refine R_ret rfl (Or.inl rfl) ?_
      exact done _ i11.1.symm
    · omega
  by_cases h10w : w = 10
  · subst h10w
    refine R_iload_n (q := 1) (i := 1) rfl rfl rfl rfl ?_
    refine R_iconst (q := 2) rfl rfl ?_
    refine R_iconst (q := 3) rfl rfl ?_
    refine R_cS3I (q := 6) (ci := 9) (C := C_X6_isWithin) rfl rfl rfl rfl rfl ⟨_, _, _, rfl, (by first | trivial | assumption | omega)⟩ rfl rfl (fun x M' hc => ?_)
    replace hc := hc _ _ _ rfl
    obtain ⟨w3, rfl⟩ := hc
    refine R_if_eq (q := 9) (tgt := 19) rfl rfl (by decide) (by omega) (fun h6 => ?_) (fun h6 => ?_)
    · refine R_iload_n (q := 20) (i := 1) rfl rfl rfl rfl ?_
      refine R_tblIn (q := 88) (off := 107) (tgt := 127) rfl rfl (by omega) (by omega) rfl (by decide) ?_
      refine R_aload_n (q := 128) (i := 0) rfl rfl rfl rfl ?_
      refine R_getR (q := 131) rfl rfl rfl rfl rfl (by omega) ?_
      refine R_getR (q := 134) rfl rfl rfl (lay0 st15) rfl (by omega) ?_
      refine R_iconst (q := 135) rfl rfl ?_
      refine R_gh (M 12) ?_
      refine R_cV1I (q := 138) (ci := 5) (C := C_X5_countWithFate) rfl rfl rfl rfl rfl ⟨_, _, rfl, cF_pre st15 r0 I (by omega)⟩ rfl (lay_tk (tkI st15)) (by omega) (fun x M' hc => ?_)
      replace hc := hc _ _ rfl
      obtain ⟨hc, rfl⟩ := hc
      rw [gho_g, gho_r M (M 12) (show (26 : Nat) < 191 by decide), show M 26 0 = M 12 7 from r0.ca] at hc
      subst hc
      refine R_un ?_
      refine R_ret rfl (Or.inl rfl) ?_
      exact done _ i11.2.1.symm
    · omega
  by_cases h11w : w = 11
  · subst h11w
    refine R_iload_n (q := 1) (i := 1) rfl rfl rfl rfl ?_
    refine R_iconst (q := 2) rfl rfl ?_
    refine R_iconst (q := 3) rfl rfl ?_
    refine R_cS3I (q := 6) (ci := 9) (C := C_X6_isWithin) rfl rfl rfl rfl rfl ⟨_, _, _, rfl, (by first | trivial | assumption | omega)⟩ rfl rfl (fun x M' hc => ?_)
    replace hc := hc _ _ _ rfl
    obtain ⟨w3, rfl⟩ := hc
    refine R_if_eq (q := 9) (tgt := 19) rfl rfl (by decide) (by omega) (fun h6 => ?_) (fun h6 => ?_)
    · refine R_iload_n (q := 20) (i := 1) rfl rfl rfl rfl ?_
      refine R_tblIn (q := 88) (off := 119) (tgt := 139) rfl rfl (by omega) (by omega) rfl (by decide) ?_
      refine R_aload_n (q := 140) (i := 0) rfl rfl rfl rfl ?_
      refine R_getR (q := 143) rfl rfl rfl rfl rfl (by omega) ?_
      refine R_getR (q := 146) rfl rfl rfl (lay0 st15) rfl (by omega) ?_
      refine R_iconst (q := 147) rfl rfl ?_
      refine R_gh (M 12) ?_
      refine R_cV1I (q := 150) (ci := 5) (C := C_X5_countWithFate) rfl rfl rfl rfl rfl ⟨_, _, rfl, cF_pre st15 r0 I (by omega)⟩ rfl (lay_tk (tkI st15)) (by omega) (fun x M' hc => ?_)
      replace hc := hc _ _ rfl
      obtain ⟨hc, rfl⟩ := hc
      rw [gho_g, gho_r M (M 12) (show (26 : Nat) < 191 by decide), show M 26 0 = M 12 7 from r0.ca] at hc
      subst hc
      refine R_un ?_
      refine R_ret rfl (Or.inl rfl) ?_
      exact done _ i11.2.2.1.symm
    · omega
  by_cases h12w : w = 12
  · subst h12w
    refine R_iload_n (q := 1) (i := 1) rfl rfl rfl rfl ?_
    refine R_iconst (q := 2) rfl rfl ?_
    refine R_iconst (q := 3) rfl rfl ?_
    refine R_cS3I (q := 6) (ci := 9) (C := C_X6_isWithin) rfl rfl rfl rfl rfl ⟨_, _, _, rfl, (by first | trivial | assumption | omega)⟩ rfl rfl (fun x M' hc => ?_)
    replace hc := hc _ _ _ rfl
    obtain ⟨w3, rfl⟩ := hc
    refine R_if_eq (q := 9) (tgt := 19) rfl rfl (by decide) (by omega) (fun h6 => ?_) (fun h6 => ?_)
    · refine R_iload_n (q := 20) (i := 1) rfl rfl rfl rfl ?_
      refine R_tblIn (q := 88) (off := 131) (tgt := 151) rfl rfl (by omega) (by omega) rfl (by decide) ?_
      refine R_aload_n (q := 152) (i := 0) rfl rfl rfl rfl ?_
      refine R_getR (q := 155) rfl rfl rfl rfl rfl (by omega) ?_
      refine R_getI (q := 158) (k1 := 6) rfl rfl rfl (lay0 st15) rfl (by omega) rfl ?_
      refine R_ret rfl (Or.inl rfl) ?_
      exact done _ r0.fe
    · omega
  by_cases h13w : w = 13
  · subst h13w
    refine R_iload_n (q := 1) (i := 1) rfl rfl rfl rfl ?_
    refine R_iconst (q := 2) rfl rfl ?_
    refine R_iconst (q := 3) rfl rfl ?_
    refine R_cS3I (q := 6) (ci := 9) (C := C_X6_isWithin) rfl rfl rfl rfl rfl ⟨_, _, _, rfl, (by first | trivial | assumption | omega)⟩ rfl rfl (fun x M' hc => ?_)
    replace hc := hc _ _ _ rfl
    obtain ⟨w3, rfl⟩ := hc
    refine R_if_eq (q := 9) (tgt := 19) rfl rfl (by decide) (by omega) (fun h6 => ?_) (fun h6 => ?_)
    · refine R_iload_n (q := 20) (i := 1) rfl rfl rfl rfl ?_
      refine R_tblIn (q := 88) (off := 139) (tgt := 159) rfl rfl (by omega) (by omega) rfl (by decide) ?_
      refine R_aload_n (q := 160) (i := 0) rfl rfl rfl rfl ?_
      refine R_getR (q := 163) rfl rfl rfl rfl rfl (by omega) ?_
      refine R_getI (q := 166) (k1 := 7) rfl rfl rfl (lay0 st15) rfl (by omega) rfl ?_
      refine R_ret rfl (Or.inl rfl) ?_
      exact done _ r0.fi
    · omega
  by_cases h14w : w = 14
  · subst h14w
    refine R_iload_n (q := 1) (i := 1) rfl rfl rfl rfl ?_
    refine R_iconst (q := 2) rfl rfl ?_
    refine R_iconst (q := 3) rfl rfl ?_
    refine R_cS3I (q := 6) (ci := 9) (C := C_X6_isWithin) rfl rfl rfl rfl rfl ⟨_, _, _, rfl, (by first | trivial | assumption | omega)⟩ rfl rfl (fun x M' hc => ?_)
    replace hc := hc _ _ _ rfl
    obtain ⟨w3, rfl⟩ := hc
    refine R_if_eq (q := 9) (tgt := 19) rfl rfl (by decide) (by omega) (fun h6 => ?_) (fun h6 => ?_)
    · refine R_iload_n (q := 20) (i := 1) rfl rfl rfl rfl ?_
      refine R_tblIn (q := 88) (off := 147) (tgt := 167) rfl rfl (by omega) (by omega) rfl (by decide) ?_
      refine R_aload_n (q := 168) (i := 0) rfl rfl rfl rfl ?_
      refine R_getR (q := 171) rfl rfl rfl rfl rfl (by omega) ?_
      refine R_getI (q := 174) (k1 := 8) rfl rfl rfl (lay0 st15) rfl (by omega) rfl ?_
      refine R_ret rfl (Or.inl rfl) ?_
      exact done _ r0.dl
    · omega
  by_cases h15w : w = 15
  · subst h15w
    refine R_iload_n (q := 1) (i := 1) rfl rfl rfl rfl ?_
    refine R_iconst (q := 2) rfl rfl ?_
    refine R_iconst (q := 3) rfl rfl ?_
    refine R_cS3I (q := 6) (ci := 9) (C := C_X6_isWithin) rfl rfl rfl rfl rfl ⟨_, _, _, rfl, (by first | trivial | assumption | omega)⟩ rfl rfl (fun x M' hc => ?_)
    replace hc := hc _ _ _ rfl
    obtain ⟨w3, rfl⟩ := hc
    refine R_if_eq (q := 9) (tgt := 19) rfl rfl (by decide) (by omega) (fun h6 => ?_) (fun h6 => ?_)
    · refine R_iload_n (q := 20) (i := 1) rfl rfl rfl rfl ?_
      refine R_tblIn (q := 88) (off := 155) (tgt := 175) rfl rfl (by omega) (by omega) rfl (by decide) ?_
      refine R_aload_n (q := 176) (i := 0) rfl rfl rfl rfl ?_
      refine R_getR (q := 179) rfl rfl rfl rfl rfl (by omega) ?_
      refine R_cV0I (q := 182) (ci := 4) (C := C_X4_taken) rfl rfl rfl rfl rfl ⟨_, rfl, st15⟩ rfl (lay0 st15) (by omega) (fun x M' hc => ?_)
      replace hc := hc _ rfl
      obtain ⟨rfl, rfl⟩ := hc
      refine R_ret rfl (Or.inl rfl) ?_
      exact done _ (by rw [show cnV M (M 12) 15 = M 12 11 + M 12 12 + M 12 13 from rfl]; exact congr (congrArg HAdd.hAdd (congr (congrArg HAdd.hAdd r0.fe) r0.fi)) r0.dl)
    · omega
  by_cases h16w : w = 16
  · subst h16w
    refine R_iload_n (q := 1) (i := 1) rfl rfl rfl rfl ?_
    refine R_iconst (q := 2) rfl rfl ?_
    refine R_iconst (q := 3) rfl rfl ?_
    refine R_cS3I (q := 6) (ci := 9) (C := C_X6_isWithin) rfl rfl rfl rfl rfl ⟨_, _, _, rfl, (by first | trivial | assumption | omega)⟩ rfl rfl (fun x M' hc => ?_)
    replace hc := hc _ _ _ rfl
    obtain ⟨w3, rfl⟩ := hc
    refine R_if_eq (q := 9) (tgt := 19) rfl rfl (by decide) (by omega) (fun h6 => ?_) (fun h6 => ?_)
    · refine R_iload_n (q := 20) (i := 1) rfl rfl rfl rfl ?_
      refine R_tblIn (q := 88) (off := 163) (tgt := 183) rfl rfl (by omega) (by omega) rfl (by decide) ?_
      refine R_aload_n (q := 184) (i := 0) rfl rfl rfl rfl ?_
      refine R_getR (q := 187) rfl rfl rfl rfl rfl (by omega) ?_
      refine R_getR (q := 190) rfl rfl rfl (lay0 st15) rfl (by omega) ?_
      refine R_gh (M 12) ?_
      refine R_cV0I (q := 193) (ci := 5) (C := C_X5_countOpenedUnfined) rfl rfl rfl rfl rfl ⟨_, rfl, cU_pre st15 r0 I⟩ rfl (lay_tk (tkI st15)) (by omega) (fun x M' hc => ?_)
      replace hc := hc _ rfl
      obtain ⟨hc, rfl⟩ := hc
      rw [gho_g, gho_r M (M 12) (show (26 : Nat) < 191 by decide), show M 26 0 = M 12 7 from r0.ca] at hc
      subst hc
      refine R_un ?_
      refine R_ret rfl (Or.inl rfl) ?_
      exact done _ i11.2.2.2.symm
    · omega
  by_cases h17w : w = 17
  · subst h17w
    refine R_iload_n (q := 1) (i := 1) rfl rfl rfl rfl ?_
    refine R_iconst (q := 2) rfl rfl ?_
    refine R_iconst (q := 3) rfl rfl ?_
    refine R_cS3I (q := 6) (ci := 9) (C := C_X6_isWithin) rfl rfl rfl rfl rfl ⟨_, _, _, rfl, (by first | trivial | assumption | omega)⟩ rfl rfl (fun x M' hc => ?_)
    replace hc := hc _ _ _ rfl
    obtain ⟨w3, rfl⟩ := hc
    refine R_if_eq (q := 9) (tgt := 19) rfl rfl (by decide) (by omega) (fun h6 => ?_) (fun h6 => ?_)
    · refine R_iload_n (q := 20) (i := 1) rfl rfl rfl rfl ?_
      refine R_tblIn (q := 88) (off := 174) (tgt := 194) rfl rfl (by omega) (by omega) rfl (by decide) ?_
      refine R_aload_n (q := 195) (i := 0) rfl rfl rfl rfl ?_
      refine R_getR (q := 198) rfl rfl rfl rfl rfl (by omega) ?_
      refine R_getI (q := 201) (k1 := 1) rfl rfl rfl rfl rfl (by omega) rfl ?_
      refine R_ret rfl (Or.inl rfl) ?_
      exact done _ g.1.2.2.2.2.2.1
    · omega
  by_cases h18w : w = 18
  · subst h18w
    refine R_iload_n (q := 1) (i := 1) rfl rfl rfl rfl ?_
    refine R_iconst (q := 2) rfl rfl ?_
    refine R_iconst (q := 3) rfl rfl ?_
    refine R_cS3I (q := 6) (ci := 9) (C := C_X6_isWithin) rfl rfl rfl rfl rfl ⟨_, _, _, rfl, (by first | trivial | assumption | omega)⟩ rfl rfl (fun x M' hc => ?_)
    replace hc := hc _ _ _ rfl
    obtain ⟨w3, rfl⟩ := hc
    refine R_if_eq (q := 9) (tgt := 19) rfl rfl (by decide) (by omega) (fun h6 => ?_) (fun h6 => ?_)
    · refine R_iload_n (q := 20) (i := 1) rfl rfl rfl rfl ?_
      refine R_tblIn (q := 88) (off := 182) (tgt := 202) rfl rfl (by omega) (by omega) rfl (by decide) ?_
      refine R_aload_n (q := 203) (i := 0) rfl rfl rfl rfl ?_
      refine R_getR (q := 206) rfl rfl rfl rfl rfl (by omega) ?_
      refine R_getI (q := 209) (k1 := 2) rfl rfl rfl rfl rfl (by omega) rfl ?_
      refine R_ret rfl (Or.inl rfl) ?_
      exact done _ g.1.2.2.1
    · omega
  refine R_iload_n (q := 1) (i := 1) rfl rfl rfl rfl ?_
  refine R_iconst (q := 2) rfl rfl ?_
  refine R_iconst (q := 3) rfl rfl ?_
  refine R_cS3I (q := 6) (ci := 9) (C := C_X6_isWithin) rfl rfl rfl rfl rfl ⟨_, _, _, rfl, (by first | trivial | assumption | omega)⟩ rfl rfl (fun x M' hc => ?_)
  replace hc := hc _ _ _ rfl
  obtain ⟨w3, rfl⟩ := hc
  refine R_if_eq (q := 9) (tgt := 19) rfl rfl (by decide) (by omega) (fun h6 => ?_) (fun h6 => ?_)
  · refine R_iload_n (q := 20) (i := 1) rfl rfl rfl rfl ?_
    refine R_tblOut (q := 88) (tgt := 210) rfl rfl (by omega) (by omega) (by decide) ?_
    refine R_bipush (q := 212) rfl rfl (by decide) ?_
    refine R_ret rfl (Or.inl rfl) ?_
    refine done _ ?_
    unfold cnV
    rw [if_neg (by omega), if_neg (by omega), if_neg (by omega), if_neg (by omega), if_neg (by omega), if_neg (by omega), if_neg (by omega)]
  · omega
set_option maxRecDepth 100000 in
theorem mt_X6_count : MtOK yX6_count cX6_count 2 (some .int) 1 C_X6_count := by
  refine mt_of sx_X6_count (by decide +kernel) (Or.inl ⟨rfl, rfl, rfl⟩) (by decide +kernel) fdX6_ok kLX6_ok kIX6_ok sgX6_ok ntX6_ok
    (all_cons (clokS mt_X6_isWithin (GT_at 282 (by decide +kernel) (by decide +kernel)) (GT_at 11 (by decide +kernel) (by decide +kernel)) (GT_at 284 (by decide +kernel) (by decide +kernel)) (by decide +kernel) (by decide) (GT_at 283 (by decide +kernel) (by decide +kernel))) (all_cons (clokV mt_X4_waitingTrunks rfl (GT_at 241 (by decide +kernel) (by decide +kernel)) (GT_at 12 (by decide +kernel) (by decide +kernel)) (GT_at 244 (by decide +kernel) (by decide +kernel)) (by decide +kernel) (by decide) (GT_at 242 (by decide +kernel) (by decide +kernel)) (GT_at 243 (by decide +kernel) (by decide +kernel)) rfl rfl) (all_cons (clokV mt_X5_countWithFate rfl (GT_at 285 (by decide +kernel) (by decide +kernel)) (GT_at 14 (by decide +kernel) (by decide +kernel)) (GT_at 288 (by decide +kernel) (by decide +kernel)) (by decide +kernel) (by decide) (GT_at 286 (by decide +kernel) (by decide +kernel)) (GT_at 287 (by decide +kernel) (by decide +kernel)) rfl rfl) (all_cons (clokV mt_X4_taken rfl (GT_at 289 (by decide +kernel) (by decide +kernel)) (GT_at 12 (by decide +kernel) (by decide +kernel)) (GT_at 292 (by decide +kernel) (by decide +kernel)) (by decide +kernel) (by decide) (GT_at 290 (by decide +kernel) (by decide +kernel)) (GT_at 291 (by decide +kernel) (by decide +kernel)) rfl rfl) (all_cons (clokV mt_X5_countOpenedUnfined rfl (GT_at 293 (by decide +kernel) (by decide +kernel)) (GT_at 14 (by decide +kernel) (by decide +kernel)) (GT_at 296 (by decide +kernel) (by decide +kernel)) (by decide +kernel) (by decide) (GT_at 294 (by decide +kernel) (by decide +kernel)) (GT_at 295 (by decide +kernel) (by decide +kernel)) rfl rfl) (all_nil)))))) ?_ ?_
  · rintro as M - ⟨o, w, rfl, hp⟩
    exact Nat.le_of_ble_eq_true rfl
  · rintro L scr as M - ⟨o, w, rfl, hp⟩
    exact Runs.mono (fun x M' h _ _ e => by cases e; exact h) (ok_X6_count L scr o w M hp)
