/-! THE LAW: one call of the class, the same of the reference, and so on -/
abbrev C_X7_restoreB : Ct := (2, true, fun as M => ∃ (o : Nat) (s : Int), as = [wR o, wI s] ∧ (o = 11 ∧ inr s ∧ (s = 0 ∨ s = 1 → 0 ≤ M 13 s ∧ M 13 s ≤ 1) ∧ 0 ≤ M 11 1 ∧ M 11 1 ≤ 4), fun as M x M' => ∀ (o : Nat) (s : Int), as = [wR o, wI s] → ((¬ (s = 0 ∨ s = 1) ∧ x = -2 ∧ M = M') ∨ ((s = 0 ∨ s = 1) ∧ M 13 s = 0 ∧ x = -5 ∧ M = M') ∨ ((s = 0 ∨ s = 1) ∧ M 13 s = 1 ∧ x = M 12 (662 * (5 + s) + 6) ∧ Chg M M' (fun i => M 12 (662 * (5 + s) + i)) ∧ Fr M M' ∧ ∀ k, k ≠ 1 → M' 11 k = M 11 k)))
set_option maxRecDepth 100000 in
theorem ok_X7_restoreB (L : Nat) (scr : Int → Int) (o : Nat) (s : Int) (M : Mem) (hp : o = 11 ∧ inr s ∧ (s = 0 ∨ s = 1 → 0 ≤ M 13 s ∧ M 13 s ≤ 1) ∧ 0 ≤ M 11 1 ∧ M 11 1 ≤ 4) : Runs sx_X7_restore L (xcF scr) (fun x M' => (¬ (s = 0 ∨ s = 1) ∧ x = -2 ∧ M = M') ∨ ((s = 0 ∨ s = 1) ∧ M 13 s = 0 ∧ x = -5 ∧ M = M') ∨ ((s = 0 ∨ s = 1) ∧ M 13 s = 1 ∧ x = M 12 (662 * (5 + s) + 6) ∧ Chg M M' (fun i => M 12 (662 * (5 + s) + i)) ∧ Fr M M' ∧ ∀ k, k ≠ 1 → M' 11 k = M 11 k)) 0 [wR o, wI s] [] M := by
  obtain ⟨rfl, h1, h2, hs⟩ := hp
  by_cases hz : s = 0 ∨ s = 1
  · exact ok_X7_restore L scr 11 s M ⟨rfl, h1, h2 hz, hs⟩
  · refine R_iload_n (q := 1) (i := 1) rfl rfl rfl rfl ?_
    refine R_cS1I (q := 4) (ci := 9) (C := C_X7_isSlot) rfl rfl rfl rfl rfl ⟨_, rfl, (by first | trivial | assumption | omega)⟩ rfl rfl (fun x M' hc => ?_)
    replace hc := hc _ rfl
    rw [if_neg hz] at hc
    obtain ⟨rfl, rfl⟩ := hc
    refine R_if_ne (q := 7) (tgt := 10) rfl rfl (by decide) (by omega) (fun h4 => ?_) (fun h4 => ?_)
    · omega
    · refine R_bipush (q := 9) rfl rfl (by decide) ?_
      refine R_ret rfl (Or.inl rfl) ?_
      exact Or.inl ⟨hz, rfl, rfl⟩
set_option maxRecDepth 100000 in
theorem mt_X7_restoreB : MtOK yX7_restore cX7_restore 2 (some .int) 2 C_X7_restoreB := by
  refine mt_of sx_X7_restore (by decide +kernel) (Or.inl ⟨rfl, rfl, rfl⟩) (by decide +kernel) fdX7_ok kLX7_ok kIX7_ok sgX7_ok ntX7_ok
    (all_cons (clokS mt_X7_isSlot (GT_at 830 (by decide +kernel) (by decide +kernel)) (GT_at 44 (by decide +kernel) (by decide +kernel)) (GT_at 832 (by decide +kernel) (by decide +kernel)) (by decide +kernel) (by decide) (GT_at 831 (by decide +kernel) (by decide +kernel))) (all_cons (clokV mt_X7_changes rfl (GT_at 600 (by decide +kernel) (by decide +kernel)) (GT_at 44 (by decide +kernel) (by decide +kernel)) (GT_at 603 (by decide +kernel) (by decide +kernel)) (by decide +kernel) (by decide) (GT_at 602 (by decide +kernel) (by decide +kernel)) (GT_at 11 (by decide +kernel) (by decide +kernel)) rfl rfl) (all_cons (clokV mt_X7_copies rfl (GT_at 604 (by decide +kernel) (by decide +kernel)) (GT_at 44 (by decide +kernel) (by decide +kernel)) (GT_at 607 (by decide +kernel) (by decide +kernel)) (by decide +kernel) (by decide) (GT_at 606 (by decide +kernel) (by decide +kernel)) (GT_at 12 (by decide +kernel) (by decide +kernel)) rfl rfl) (all_nil)))) ?_ ?_
  · rintro as M - ⟨o, s, rfl, hp⟩
    exact Nat.le_of_ble_eq_true rfl
  · rintro L scr as M - ⟨o, s, rfl, hp⟩
    exact Runs.mono (fun x M' h _ _ e => by cases e; exact h) (ok_X7_restoreB L scr o s M hp)
def sx_L_law : Sx := (tb_L_law, fdL, kLL, kIL, sgL, ntL, [(13, (6, C_X6_set)), (17, (7, C_X7_set)), (18, (6, C_X6_weight)), (21, (7, C_X7_weight)), (22, (6, C_X6_trust)), (25, (7, C_X7_trust)), (26, (6, C_X6_hands)), (29, (7, C_X7_hands)), (30, (6, C_X6_read)), (34, (7, C_X7_read)), (35, (6, C_X6_mend)), (39, (7, C_X7_mend)), (40, (6, C_X6_sendBack)), (44, (7, C_X7_sendBack)), (45, (6, C_X6_turn)), (48, (7, C_X7_turn)), (49, (6, C_X6_trunk)), (52, (7, C_X7_trunk)), (53, (6, C_X6_pieces)), (57, (7, C_X7_pieces)), (58, (6, C_X6_alike)), (61, (7, C_X7_alike)), (62, (6, C_X6_desk)), (65, (7, C_X7_desk)), (66, (6, C_X6_count)), (69, (7, C_X7_count)), (70, (6, C_X6_untilGone)), (73, (7, C_X7_untilGone)), (74, (6, C_X6_fate)), (77, (7, C_X7_fate)), (78, (6, C_X6_mostDoubted)), (81, (7, C_X7_mostDoubted)), (82, (6, C_X6_ifTurned)), (85, (7, C_X7_ifTurned)), (86, (6, C_X6_bestHand)), (89, (7, C_X7_bestHand)), (90, (6, C_X6_leastSmall)), (93, (7, C_X7_leastSmall)), (96, (6, C_X6_put)), (100, (7, C_X7_put)), (101, (6, C_X6_wipe)), (104, (7, C_X7_wipe)), (105, (6, C_X6_fault)), (108, (7, C_X7_fault)), (109, (6, C_X6_undo)), (112, (7, C_X7_undo)), (113, (6, C_X6_save)), (116, (7, C_X7_save)), (117, (6, C_X6_restore)), (120, (7, C_X7_restoreB))], 2)
abbrev LQ : Int → Mem → Prop := fun x _ => x = 1
theorem xlor_in (a b : Int) : inl64 (xlor a b) := inl64_toInt _
set_option maxRecDepth 100000 in
set_option maxHeartbeats 1000000 in
theorem law_c0 (L : Nat) (scr : Int → Int) (i : Int) (M : Mem) (hsc : ∀ k, inr (xcF scr 0 k)) (hi : 0 ≤ i ∧ i + 4 < (L : Int)) (g : GI M) (hgo : ∀ N, GI N → Runs sx_L_law L (xcF scr) LQ 813 [wR 0, wR 3, wR 11, wI i] [] N) : Runs sx_L_law L (xcF scr) LQ 148 [wR 0, wR 3, wR 11, wI i] [] M := by
  refine R_aload_n (q := 149) (i := 1) rfl rfl rfl rfl ?_
  refine R_aload_n (q := 150) (i := 0) rfl rfl rfl rfl ?_
  refine R_iload_n (q := 151) (i := 3) rfl rfl rfl rfl ?_
  refine R_iconst (q := 152) rfl rfl ?_
  refine R_iadd (q := 153) rfl rfl ?_
  refine R_ialdX (q := 154) rfl rfl (by decide) (show 0 ≤ i + 1 ∧ i + 1 < ((L : Nat) : Int) by omega) ?_
  refine R_aload_n (q := 155) (i := 0) rfl rfl rfl rfl ?_
  refine R_iload_n (q := 156) (i := 3) rfl rfl rfl rfl ?_
  refine R_iconst (q := 157) rfl rfl ?_
  refine R_iadd (q := 158) rfl rfl ?_
  refine R_ialdX (q := 159) rfl rfl (by decide) (show 0 ≤ i + 2 ∧ i + 2 < ((L : Nat) : Int) by omega) ?_
  refine R_cV2I (q := 162) (ci := 6) (C := C_X6_set) rfl rfl rfl rfl rfl ⟨_, _, _, rfl, ⟨rfl, g, hsc _, hsc _⟩⟩ rfl rfl (by omega) (fun x M' hc => ?_)
  replace hc := hc _ _ _ rfl
  have hB := hc
  have hI : Inv (M' 12) := by rw [hB.1 12 (by decide) (by decide)]; exact g.2.1.1
  have t6 : M' 12 6 ≤ 9999 := by rw [hB.1 12 (by decide) (by decide)]; exact g.2.1.2
  have hs : 0 ≤ M' 11 1 ∧ M' 11 1 ≤ 4 := by rw [hB.1 11 (by decide) (by decide)]; exact g.2.2.1
  have pd : PdM M' := by unfold PdM; rw [hB.1 11 (by decide) (by decide), hB.1 14 (by decide) (by decide)]; exact g.2.2.2.2.2
  have h13 : ∀ s, s = 0 ∨ s = 1 → 0 ≤ M' 13 s ∧ M' 13 s ≤ 1 := fun s z => by
    rw [hB.1 13 (by decide) (by decide)]
    have := (g.2.2.2.2.1 s z).1
    omega
  refine R_aload_n (q := 163) (i := 2) rfl rfl rfl rfl ?_
  refine R_aload_n (q := 164) (i := 0) rfl rfl rfl rfl ?_
  refine R_iload_n (q := 165) (i := 3) rfl rfl rfl rfl ?_
  refine R_iconst (q := 166) rfl rfl ?_
  refine R_iadd (q := 167) rfl rfl ?_
  refine R_ialdX (q := 168) rfl rfl (by decide) (show 0 ≤ i + 1 ∧ i + 1 < ((L : Nat) : Int) by omega) ?_
  refine R_aload_n (q := 169) (i := 0) rfl rfl rfl rfl ?_
  refine R_iload_n (q := 170) (i := 3) rfl rfl rfl rfl ?_
  refine R_iconst (q := 171) rfl rfl ?_
  refine R_iadd (q := 172) rfl rfl ?_
  refine R_ialdX (q := 173) rfl rfl (by decide) (show 0 ≤ i + 2 ∧ i + 2 < ((L : Nat) : Int) by omega) ?_
  refine R_cV2I (q := 176) (ci := 7) (C := C_X7_set) rfl rfl rfl rfl rfl ⟨_, _, _, rfl, ⟨rfl, hsc _, hsc _, hs⟩⟩ rfl rfl (by omega) (fun x M' hc => ?_)
  replace hc := hc _ _ _ rfl
  skip
  obtain ⟨e, g2⟩ := hB.2 _ _ (fun _ _ _ e => by cases e; exact hc)
  subst e
  refine R_eqS (q := 179) (tgt := 813) rfl rfl (by decide) ?_
  exact hgo _ g2
set_option maxRecDepth 100000 in
set_option maxHeartbeats 1000000 in
theorem law_c1 (L : Nat) (scr : Int → Int) (i : Int) (M : Mem) (hsc : ∀ k, inr (xcF scr 0 k)) (hi : 0 ≤ i ∧ i + 4 < (L : Int)) (g : GI M) (hgo : ∀ N, GI N → Runs sx_L_law L (xcF scr) LQ 813 [wR 0, wR 3, wR 11, wI i] [] N) : Runs sx_L_law L (xcF scr) LQ 181 [wR 0, wR 3, wR 11, wI i] [] M := by
  refine R_aload_n (q := 182) (i := 1) rfl rfl rfl rfl ?_
  refine R_aload_n (q := 183) (i := 0) rfl rfl rfl rfl ?_
  refine R_iload_n (q := 184) (i := 3) rfl rfl rfl rfl ?_
  refine R_iconst (q := 185) rfl rfl ?_
  refine R_iadd (q := 186) rfl rfl ?_
  refine R_ialdX (q := 187) rfl rfl (by decide) (show 0 ≤ i + 1 ∧ i + 1 < ((L : Nat) : Int) by omega) ?_
  refine R_aload_n (q := 188) (i := 0) rfl rfl rfl rfl ?_
  refine R_iload_n (q := 189) (i := 3) rfl rfl rfl rfl ?_
  refine R_iconst (q := 190) rfl rfl ?_
  refine R_iadd (q := 191) rfl rfl ?_
  refine R_ialdX (q := 192) rfl rfl (by decide) (show 0 ≤ i + 2 ∧ i + 2 < ((L : Nat) : Int) by omega) ?_
  refine R_cV2I (q := 195) (ci := 6) (C := C_X6_weight) rfl rfl rfl rfl rfl ⟨_, _, _, rfl, ⟨rfl, g, hsc _, hsc _⟩⟩ rfl rfl (by omega) (fun x M' hc => ?_)
  replace hc := hc _ _ _ rfl
  have hB := hc
  have hI : Inv (M' 12) := by rw [hB.1 12 (by decide) (by decide)]; exact g.2.1.1
  have t6 : M' 12 6 ≤ 9999 := by rw [hB.1 12 (by decide) (by decide)]; exact g.2.1.2
  have hs : 0 ≤ M' 11 1 ∧ M' 11 1 ≤ 4 := by rw [hB.1 11 (by decide) (by decide)]; exact g.2.2.1
  have pd : PdM M' := by unfold PdM; rw [hB.1 11 (by decide) (by decide), hB.1 14 (by decide) (by decide)]; exact g.2.2.2.2.2
  have h13 : ∀ s, s = 0 ∨ s = 1 → 0 ≤ M' 13 s ∧ M' 13 s ≤ 1 := fun s z => by
    rw [hB.1 13 (by decide) (by decide)]
    have := (g.2.2.2.2.1 s z).1
    omega
  refine R_aload_n (q := 196) (i := 2) rfl rfl rfl rfl ?_
  refine R_aload_n (q := 197) (i := 0) rfl rfl rfl rfl ?_
  refine R_iload_n (q := 198) (i := 3) rfl rfl rfl rfl ?_
  refine R_iconst (q := 199) rfl rfl ?_
  refine R_iadd (q := 200) rfl rfl ?_
  refine R_ialdX (q := 201) rfl rfl (by decide) (show 0 ≤ i + 1 ∧ i + 1 < ((L : Nat) : Int) by omega) ?_
  refine R_aload_n (q := 202) (i := 0) rfl rfl rfl rfl ?_
  refine R_iload_n (q := 203) (i := 3) rfl rfl rfl rfl ?_
  refine R_iconst (q := 204) rfl rfl ?_
  refine R_iadd (q := 205) rfl rfl ?_
  refine R_ialdX (q := 206) rfl rfl (by decide) (show 0 ≤ i + 2 ∧ i + 2 < ((L : Nat) : Int) by omega) ?_
  refine R_cV2I (q := 209) (ci := 7) (C := C_X7_weight) rfl rfl rfl rfl rfl ⟨_, _, _, rfl, ⟨rfl, hsc _, hsc _, hs⟩⟩ rfl rfl (by omega) (fun x M' hc => ?_)
  replace hc := hc _ _ _ rfl
  skip
  obtain ⟨e, g2⟩ := hB.2 _ _ (fun _ _ _ e => by cases e; exact hc)
  subst e
  refine R_eqS (q := 212) (tgt := 813) rfl rfl (by decide) ?_
  exact hgo _ g2
set_option maxRecDepth 100000 in
set_option maxHeartbeats 1000000 in
theorem law_c2 (L : Nat) (scr : Int → Int) (i : Int) (M : Mem) (hsc : ∀ k, inr (xcF scr 0 k)) (hi : 0 ≤ i ∧ i + 4 < (L : Int)) (g : GI M) (hgo : ∀ N, GI N → Runs sx_L_law L (xcF scr) LQ 813 [wR 0, wR 3, wR 11, wI i] [] N) : Runs sx_L_law L (xcF scr) LQ 214 [wR 0, wR 3, wR 11, wI i] [] M := by
  refine R_aload_n (q := 215) (i := 1) rfl rfl rfl rfl ?_
  refine R_aload_n (q := 216) (i := 0) rfl rfl rfl rfl ?_
  refine R_iload_n (q := 217) (i := 3) rfl rfl rfl rfl ?_
  refine R_iconst (q := 218) rfl rfl ?_
  refine R_iadd (q := 219) rfl rfl ?_
  refine R_ialdX (q := 220) rfl rfl (by decide) (show 0 ≤ i + 1 ∧ i + 1 < ((L : Nat) : Int) by omega) ?_
  refine R_aload_n (q := 221) (i := 0) rfl rfl rfl rfl ?_
  refine R_iload_n (q := 222) (i := 3) rfl rfl rfl rfl ?_
  refine R_iconst (q := 223) rfl rfl ?_
  refine R_iadd (q := 224) rfl rfl ?_
  refine R_ialdX (q := 225) rfl rfl (by decide) (show 0 ≤ i + 2 ∧ i + 2 < ((L : Nat) : Int) by omega) ?_
  refine R_cV2I (q := 228) (ci := 6) (C := C_X6_trust) rfl rfl rfl rfl rfl ⟨_, _, _, rfl, ⟨rfl, g, hsc _, hsc _⟩⟩ rfl rfl (by omega) (fun x M' hc => ?_)
  replace hc := hc _ _ _ rfl
  have hB := hc
  have hI : Inv (M' 12) := by rw [hB.1 12 (by decide) (by decide)]; exact g.2.1.1
  have t6 : M' 12 6 ≤ 9999 := by rw [hB.1 12 (by decide) (by decide)]; exact g.2.1.2
  have hs : 0 ≤ M' 11 1 ∧ M' 11 1 ≤ 4 := by rw [hB.1 11 (by decide) (by decide)]; exact g.2.2.1
  have pd : PdM M' := by unfold PdM; rw [hB.1 11 (by decide) (by decide), hB.1 14 (by decide) (by decide)]; exact g.2.2.2.2.2
  have h13 : ∀ s, s = 0 ∨ s = 1 → 0 ≤ M' 13 s ∧ M' 13 s ≤ 1 := fun s z => by
    rw [hB.1 13 (by decide) (by decide)]
    have := (g.2.2.2.2.1 s z).1
    omega
  refine R_aload_n (q := 229) (i := 2) rfl rfl rfl rfl ?_
  refine R_aload_n (q := 230) (i := 0) rfl rfl rfl rfl ?_
  refine R_iload_n (q := 231) (i := 3) rfl rfl rfl rfl ?_
  refine R_iconst (q := 232) rfl rfl ?_
  refine R_iadd (q := 233) rfl rfl ?_
  refine R_ialdX (q := 234) rfl rfl (by decide) (show 0 ≤ i + 1 ∧ i + 1 < ((L : Nat) : Int) by omega) ?_
  refine R_aload_n (q := 235) (i := 0) rfl rfl rfl rfl ?_
  refine R_iload_n (q := 236) (i := 3) rfl rfl rfl rfl ?_
  refine R_iconst (q := 237) rfl rfl ?_
  refine R_iadd (q := 238) rfl rfl ?_
  refine R_ialdX (q := 239) rfl rfl (by decide) (show 0 ≤ i + 2 ∧ i + 2 < ((L : Nat) : Int) by omega) ?_
  refine R_cV2I (q := 242) (ci := 7) (C := C_X7_trust) rfl rfl rfl rfl rfl ⟨_, _, _, rfl, ⟨rfl, hsc _, hsc _, hs⟩⟩ rfl rfl (by omega) (fun x M' hc => ?_)
  replace hc := hc _ _ _ rfl
  skip
  obtain ⟨e, g2⟩ := hB.2 _ _ (fun _ _ _ e => by cases e; exact hc)
  subst e
  refine R_eqS (q := 245) (tgt := 813) rfl rfl (by decide) ?_
  exact hgo _ g2
set_option maxRecDepth 100000 in
set_option maxHeartbeats 1000000 in
theorem law_c3 (L : Nat) (scr : Int → Int) (i : Int) (M : Mem) (hsc : ∀ k, inr (xcF scr 0 k)) (hi : 0 ≤ i ∧ i + 4 < (L : Int)) (g : GI M) (hgo : ∀ N, GI N → Runs sx_L_law L (xcF scr) LQ 813 [wR 0, wR 3, wR 11, wI i] [] N) : Runs sx_L_law L (xcF scr) LQ 247 [wR 0, wR 3, wR 11, wI i] [] M := by
  refine R_aload_n (q := 248) (i := 1) rfl rfl rfl rfl ?_
  refine R_aload_n (q := 249) (i := 0) rfl rfl rfl rfl ?_
  refine R_iload_n (q := 250) (i := 3) rfl rfl rfl rfl ?_
  refine R_iconst (q := 251) rfl rfl ?_
  refine R_iadd (q := 252) rfl rfl ?_
  refine R_ialdX (q := 253) rfl rfl (by decide) (show 0 ≤ i + 1 ∧ i + 1 < ((L : Nat) : Int) by omega) ?_
  refine R_aload_n (q := 254) (i := 0) rfl rfl rfl rfl ?_
  refine R_iload_n (q := 255) (i := 3) rfl rfl rfl rfl ?_
  refine R_iconst (q := 256) rfl rfl ?_
  refine R_iadd (q := 257) rfl rfl ?_
  refine R_ialdX (q := 258) rfl rfl (by decide) (show 0 ≤ i + 2 ∧ i + 2 < ((L : Nat) : Int) by omega) ?_
  refine R_cV2I (q := 261) (ci := 6) (C := C_X6_hands) rfl rfl rfl rfl rfl ⟨_, _, _, rfl, ⟨rfl, g, hsc _, hsc _⟩⟩ rfl rfl (by omega) (fun x M' hc => ?_)
  replace hc := hc _ _ _ rfl
  have hB := hc
  have hI : Inv (M' 12) := by rw [hB.1 12 (by decide) (by decide)]; exact g.2.1.1
  have t6 : M' 12 6 ≤ 9999 := by rw [hB.1 12 (by decide) (by decide)]; exact g.2.1.2
  have hs : 0 ≤ M' 11 1 ∧ M' 11 1 ≤ 4 := by rw [hB.1 11 (by decide) (by decide)]; exact g.2.2.1
  have pd : PdM M' := by unfold PdM; rw [hB.1 11 (by decide) (by decide), hB.1 14 (by decide) (by decide)]; exact g.2.2.2.2.2
  have h13 : ∀ s, s = 0 ∨ s = 1 → 0 ≤ M' 13 s ∧ M' 13 s ≤ 1 := fun s z => by
    rw [hB.1 13 (by decide) (by decide)]
    have := (g.2.2.2.2.1 s z).1
    omega
  refine R_aload_n (q := 262) (i := 2) rfl rfl rfl rfl ?_
  refine R_aload_n (q := 263) (i := 0) rfl rfl rfl rfl ?_
  refine R_iload_n (q := 264) (i := 3) rfl rfl rfl rfl ?_
  refine R_iconst (q := 265) rfl rfl ?_
  refine R_iadd (q := 266) rfl rfl ?_
  refine R_ialdX (q := 267) rfl rfl (by decide) (show 0 ≤ i + 1 ∧ i + 1 < ((L : Nat) : Int) by omega) ?_
  refine R_aload_n (q := 268) (i := 0) rfl rfl rfl rfl ?_
  refine R_iload_n (q := 269) (i := 3) rfl rfl rfl rfl ?_
  refine R_iconst (q := 270) rfl rfl ?_
  refine R_iadd (q := 271) rfl rfl ?_
  refine R_ialdX (q := 272) rfl rfl (by decide) (show 0 ≤ i + 2 ∧ i + 2 < ((L : Nat) : Int) by omega) ?_
  refine R_cV2I (q := 275) (ci := 7) (C := C_X7_hands) rfl rfl rfl rfl rfl ⟨_, _, _, rfl, ⟨rfl, hsc _, hsc _, hs⟩⟩ rfl rfl (by omega) (fun x M' hc => ?_)
  replace hc := hc _ _ _ rfl
  skip
  obtain ⟨e, g2⟩ := hB.2 _ _ (fun _ _ _ e => by cases e; exact hc)
  subst e
  refine R_eqS (q := 278) (tgt := 813) rfl rfl (by decide) ?_
  exact hgo _ g2
set_option maxRecDepth 100000 in
set_option maxHeartbeats 1000000 in
theorem law_c4 (L : Nat) (scr : Int → Int) (i : Int) (M : Mem) (hsc : ∀ k, inr (xcF scr 0 k)) (hi : 0 ≤ i ∧ i + 4 < (L : Int)) (g : GI M) (hgo : ∀ N, GI N → Runs sx_L_law L (xcF scr) LQ 813 [wR 0, wR 3, wR 11, wI i] [] N) : Runs sx_L_law L (xcF scr) LQ 280 [wR 0, wR 3, wR 11, wI i] [] M := by
  refine R_aload_n (q := 281) (i := 1) rfl rfl rfl rfl ?_
  refine R_cV0I (q := 284) (ci := 6) (C := C_X6_read) rfl rfl rfl rfl rfl ⟨_, rfl, ⟨rfl, g⟩⟩ rfl rfl (by omega) (fun x M' hc => ?_)
  replace hc := hc _ rfl
  have hB := hc
  have hI : Inv (M' 12) := by rw [hB.1 12 (by decide) (by decide)]; exact g.2.1.1
  have t6 : M' 12 6 ≤ 9999 := by rw [hB.1 12 (by decide) (by decide)]; exact g.2.1.2
  have hs : 0 ≤ M' 11 1 ∧ M' 11 1 ≤ 4 := by rw [hB.1 11 (by decide) (by decide)]; exact g.2.2.1
  have pd : PdM M' := by unfold PdM; rw [hB.1 11 (by decide) (by decide), hB.1 14 (by decide) (by decide)]; exact g.2.2.2.2.2
  have h13 : ∀ s, s = 0 ∨ s = 1 → 0 ≤ M' 13 s ∧ M' 13 s ≤ 1 := fun s z => by
    rw [hB.1 13 (by decide) (by decide)]
    have := (g.2.2.2.2.1 s z).1
    omega
  refine R_aload_n (q := 285) (i := 2) rfl rfl rfl rfl ?_
  refine R_cV0I (q := 288) (ci := 7) (C := C_X7_read) rfl rfl rfl rfl rfl ⟨_, rfl, ⟨rfl, pd, hI, hs⟩⟩ rfl rfl (by omega) (fun x M' hc => ?_)
  replace hc := hc _ rfl
  skip
  obtain ⟨e, g2⟩ := hB.2 _ _ (fun _ e => by cases e; exact hc)
  subst e
  refine R_eqS (q := 291) (tgt := 813) rfl rfl (by decide) ?_
  exact hgo _ g2
set_option maxRecDepth 100000 in
set_option maxHeartbeats 1000000 in
theorem law_c5 (L : Nat) (scr : Int → Int) (i : Int) (M : Mem) (hsc : ∀ k, inr (xcF scr 0 k)) (hi : 0 ≤ i ∧ i + 4 < (L : Int)) (g : GI M) (hgo : ∀ N, GI N → Runs sx_L_law L (xcF scr) LQ 813 [wR 0, wR 3, wR 11, wI i] [] N) : Runs sx_L_law L (xcF scr) LQ 293 [wR 0, wR 3, wR 11, wI i] [] M := by
  refine R_aload_n (q := 294) (i := 1) rfl rfl rfl rfl ?_
  refine R_aload_n (q := 295) (i := 0) rfl rfl rfl rfl ?_
  refine R_iload_n (q := 296) (i := 3) rfl rfl rfl rfl ?_
  refine R_iconst (q := 297) rfl rfl ?_
  refine R_iadd (q := 298) rfl rfl ?_
  refine R_ialdX (q := 299) rfl rfl (by decide) (show 0 ≤ i + 1 ∧ i + 1 < ((L : Nat) : Int) by omega) ?_
  refine R_aload_n (q := 300) (i := 0) rfl rfl rfl rfl ?_
  refine R_iload_n (q := 301) (i := 3) rfl rfl rfl rfl ?_
  refine R_iconst (q := 302) rfl rfl ?_
  refine R_iadd (q := 303) rfl rfl ?_
  refine R_ialdX (q := 304) rfl rfl (by decide) (show 0 ≤ i + 2 ∧ i + 2 < ((L : Nat) : Int) by omega) ?_
  refine R_aload_n (q := 305) (i := 0) rfl rfl rfl rfl ?_
  refine R_iload_n (q := 306) (i := 3) rfl rfl rfl rfl ?_
  refine R_iconst (q := 307) rfl rfl ?_
  refine R_iadd (q := 308) rfl rfl ?_
  refine R_ialdX (q := 309) rfl rfl (by decide) (show 0 ≤ i + 3 ∧ i + 3 < ((L : Nat) : Int) by omega) ?_
  refine R_aload_n (q := 310) (i := 0) rfl rfl rfl rfl ?_
  refine R_iload_n (q := 311) (i := 3) rfl rfl rfl rfl ?_
  refine R_iconst (q := 312) rfl rfl ?_
  refine R_iadd (q := 313) rfl rfl ?_
  refine R_ialdX (q := 314) rfl rfl (by decide) (show 0 ≤ i + 4 ∧ i + 4 < ((L : Nat) : Int) by omega) ?_
  refine R_cV4I (q := 317) (ci := 6) (C := C_X6_mend) rfl rfl rfl rfl rfl ⟨_, _, _, _, _, rfl, ⟨rfl, g, hsc _, hsc _, hsc _, hsc _⟩⟩ rfl rfl (by omega) (fun x M' hc => ?_)
  replace hc := hc _ _ _ _ _ rfl
  have hB := hc
  have hI : Inv (M' 12) := by rw [hB.1 12 (by decide) (by decide)]; exact g.2.1.1
  have t6 : M' 12 6 ≤ 9999 := by rw [hB.1 12 (by decide) (by decide)]; exact g.2.1.2
  have hs : 0 ≤ M' 11 1 ∧ M' 11 1 ≤ 4 := by rw [hB.1 11 (by decide) (by decide)]; exact g.2.2.1
  have pd : PdM M' := by unfold PdM; rw [hB.1 11 (by decide) (by decide), hB.1 14 (by decide) (by decide)]; exact g.2.2.2.2.2
  have h13 : ∀ s, s = 0 ∨ s = 1 → 0 ≤ M' 13 s ∧ M' 13 s ≤ 1 := fun s z => by
    rw [hB.1 13 (by decide) (by decide)]
    have := (g.2.2.2.2.1 s z).1
    omega
  refine R_aload_n (q := 318) (i := 2) rfl rfl rfl rfl ?_
  refine R_aload_n (q := 319) (i := 0) rfl rfl rfl rfl ?_
  refine R_iload_n (q := 320) (i := 3) rfl rfl rfl rfl ?_
  refine R_iconst (q := 321) rfl rfl ?_
  refine R_iadd (q := 322) rfl rfl ?_
  refine R_ialdX (q := 323) rfl rfl (by decide) (show 0 ≤ i + 1 ∧ i + 1 < ((L : Nat) : Int) by omega) ?_
  refine R_aload_n (q := 324) (i := 0) rfl rfl rfl rfl ?_
  refine R_iload_n (q := 325) (i := 3) rfl rfl rfl rfl ?_
  refine R_iconst (q := 326) rfl rfl ?_
  refine R_iadd (q := 327) rfl rfl ?_
  refine R_ialdX (q := 328) rfl rfl (by decide) (show 0 ≤ i + 2 ∧ i + 2 < ((L : Nat) : Int) by omega) ?_
  refine R_aload_n (q := 329) (i := 0) rfl rfl rfl rfl ?_
  refine R_iload_n (q := 330) (i := 3) rfl rfl rfl rfl ?_
  refine R_iconst (q := 331) rfl rfl ?_
  refine R_iadd (q := 332) rfl rfl ?_
  refine R_ialdX (q := 333) rfl rfl (by decide) (show 0 ≤ i + 3 ∧ i + 3 < ((L : Nat) : Int) by omega) ?_
  refine R_aload_n (q := 334) (i := 0) rfl rfl rfl rfl ?_
  refine R_iload_n (q := 335) (i := 3) rfl rfl rfl rfl ?_
  refine R_iconst (q := 336) rfl rfl ?_
  refine R_iadd (q := 337) rfl rfl ?_
  refine R_ialdX (q := 338) rfl rfl (by decide) (show 0 ≤ i + 4 ∧ i + 4 < ((L : Nat) : Int) by omega) ?_
  refine R_cV4I (q := 341) (ci := 7) (C := C_X7_mend) rfl rfl rfl rfl rfl ⟨_, _, _, _, _, rfl, ⟨rfl, ⟨hsc _, hsc _, hsc _, hsc _⟩, hI, hs⟩⟩ rfl rfl (by omega) (fun x M' hc => ?_)
  replace hc := hc _ _ _ _ _ rfl
  skip
  obtain ⟨e, g2⟩ := hB.2 _ _ (fun _ _ _ _ _ e => by cases e; exact hc)
  subst e
  refine R_eqS (q := 344) (tgt := 813) rfl rfl (by decide) ?_
  exact hgo _ g2
set_option maxRecDepth 100000 in
set_option maxHeartbeats 1000000 in
theorem law_c6 (L : Nat) (scr : Int → Int) (i : Int) (M : Mem) (hsc : ∀ k, inr (xcF scr 0 k)) (hi : 0 ≤ i ∧ i + 4 < (L : Int)) (g : GI M) (hgo : ∀ N, GI N → Runs sx_L_law L (xcF scr) LQ 813 [wR 0, wR 3, wR 11, wI i] [] N) : Runs sx_L_law L (xcF scr) LQ 346 [wR 0, wR 3, wR 11, wI i] [] M := by
  refine R_aload_n (q := 347) (i := 1) rfl rfl rfl rfl ?_
  refine R_aload_n (q := 348) (i := 0) rfl rfl rfl rfl ?_
  refine R_iload_n (q := 349) (i := 3) rfl rfl rfl rfl ?_
  refine R_iconst (q := 350) rfl rfl ?_
  refine R_iadd (q := 351) rfl rfl ?_
  refine R_ialdX (q := 352) rfl rfl (by decide) (show 0 ≤ i + 1 ∧ i + 1 < ((L : Nat) : Int) by omega) ?_
  refine R_cV1I (q := 355) (ci := 6) (C := C_X6_sendBack) rfl rfl rfl rfl rfl ⟨_, _, rfl, ⟨rfl, g, hsc _⟩⟩ rfl rfl (by omega) (fun x M' hc => ?_)
  replace hc := hc _ _ rfl
  have hB := hc
  have hI : Inv (M' 12) := by rw [hB.1 12 (by decide) (by decide)]; exact g.2.1.1
  have t6 : M' 12 6 ≤ 9999 := by rw [hB.1 12 (by decide) (by decide)]; exact g.2.1.2
  have hs : 0 ≤ M' 11 1 ∧ M' 11 1 ≤ 4 := by rw [hB.1 11 (by decide) (by decide)]; exact g.2.2.1
  have pd : PdM M' := by unfold PdM; rw [hB.1 11 (by decide) (by decide), hB.1 14 (by decide) (by decide)]; exact g.2.2.2.2.2
  have h13 : ∀ s, s = 0 ∨ s = 1 → 0 ≤ M' 13 s ∧ M' 13 s ≤ 1 := fun s z => by
    rw [hB.1 13 (by decide) (by decide)]
    have := (g.2.2.2.2.1 s z).1
    omega
  refine R_aload_n (q := 356) (i := 2) rfl rfl rfl rfl ?_
  refine R_aload_n (q := 357) (i := 0) rfl rfl rfl rfl ?_
  refine R_iload_n (q := 358) (i := 3) rfl rfl rfl rfl ?_
  refine R_iconst (q := 359) rfl rfl ?_
  refine R_iadd (q := 360) rfl rfl ?_
  refine R_ialdX (q := 361) rfl rfl (by decide) (show 0 ≤ i + 1 ∧ i + 1 < ((L : Nat) : Int) by omega) ?_
  refine R_cV1I (q := 364) (ci := 7) (C := C_X7_sendBack) rfl rfl rfl rfl rfl ⟨_, _, rfl, ⟨rfl, hsc _, hI, hs⟩⟩ rfl rfl (by omega) (fun x M' hc => ?_)
  replace hc := hc _ _ rfl
  skip
  obtain ⟨e, g2⟩ := hB.2 _ _ (fun _ _ e => by cases e; exact hc)
  subst e
  refine R_eqS (q := 367) (tgt := 813) rfl rfl (by decide) ?_
  exact hgo _ g2
set_option maxRecDepth 100000 in
set_option maxHeartbeats 1000000 in
theorem law_c7 (L : Nat) (scr : Int → Int) (i : Int) (M : Mem) (hsc : ∀ k, inr (xcF scr 0 k)) (hi : 0 ≤ i ∧ i + 4 < (L : Int)) (g : GI M) (hgo : ∀ N, GI N → Runs sx_L_law L (xcF scr) LQ 813 [wR 0, wR 3, wR 11, wI i] [] N) : Runs sx_L_law L (xcF scr) LQ 369 [wR 0, wR 3, wR 11, wI i] [] M := by
  refine R_aload_n (q := 370) (i := 1) rfl rfl rfl rfl ?_
  refine R_aload_n (q := 371) (i := 0) rfl rfl rfl rfl ?_
  refine R_iload_n (q := 372) (i := 3) rfl rfl rfl rfl ?_
  refine R_iconst (q := 373) rfl rfl ?_
  refine R_iadd (q := 374) rfl rfl ?_
  refine R_ialdX (q := 375) rfl rfl (by decide) (show 0 ≤ i + 1 ∧ i + 1 < ((L : Nat) : Int) by omega) ?_
  refine R_cV1I (q := 378) (ci := 6) (C := C_X6_turn) rfl rfl rfl rfl rfl ⟨_, _, rfl, ⟨rfl, g, hsc _⟩⟩ rfl rfl (by omega) (fun x M' hc => ?_)
  replace hc := hc _ _ rfl
  have hB := hc
  have hI : Inv (M' 12) := by rw [hB.1 12 (by decide) (by decide)]; exact g.2.1.1
  have t6 : M' 12 6 ≤ 9999 := by rw [hB.1 12 (by decide) (by decide)]; exact g.2.1.2
  have hs : 0 ≤ M' 11 1 ∧ M' 11 1 ≤ 4 := by rw [hB.1 11 (by decide) (by decide)]; exact g.2.2.1
  have pd : PdM M' := by unfold PdM; rw [hB.1 11 (by decide) (by decide), hB.1 14 (by decide) (by decide)]; exact g.2.2.2.2.2
  have h13 : ∀ s, s = 0 ∨ s = 1 → 0 ≤ M' 13 s ∧ M' 13 s ≤ 1 := fun s z => by
    rw [hB.1 13 (by decide) (by decide)]
    have := (g.2.2.2.2.1 s z).1
    omega
  refine R_aload_n (q := 379) (i := 2) rfl rfl rfl rfl ?_
  refine R_aload_n (q := 380) (i := 0) rfl rfl rfl rfl ?_
  refine R_iload_n (q := 381) (i := 3) rfl rfl rfl rfl ?_
  refine R_iconst (q := 382) rfl rfl ?_
  refine R_iadd (q := 383) rfl rfl ?_
  refine R_ialdX (q := 384) rfl rfl (by decide) (show 0 ≤ i + 1 ∧ i + 1 < ((L : Nat) : Int) by omega) ?_
  refine R_cV1I (q := 387) (ci := 7) (C := C_X7_turn) rfl rfl rfl rfl rfl ⟨_, _, rfl, ⟨rfl, hsc _, hI, t6, hs⟩⟩ rfl rfl (by omega) (fun x M' hc => ?_)
  replace hc := hc _ _ rfl
  skip
  obtain ⟨e, g2⟩ := hB.2 _ _ (fun _ _ e => by cases e; exact hc)
  subst e
  refine R_eqS (q := 390) (tgt := 813) rfl rfl (by decide) ?_
  exact hgo _ g2
set_option maxRecDepth 100000 in
set_option maxHeartbeats 1000000 in
theorem law_c8 (L : Nat) (scr : Int → Int) (i : Int) (M : Mem) (hsc : ∀ k, inr (xcF scr 0 k)) (hi : 0 ≤ i ∧ i + 4 < (L : Int)) (g : GI M) (hgo : ∀ N, GI N → Runs sx_L_law L (xcF scr) LQ 813 [wR 0, wR 3, wR 11, wI i] [] N) : Runs sx_L_law L (xcF scr) LQ 392 [wR 0, wR 3, wR 11, wI i] [] M := by
  refine R_aload_n (q := 393) (i := 1) rfl rfl rfl rfl ?_
  refine R_aload_n (q := 394) (i := 0) rfl rfl rfl rfl ?_
  refine R_iload_n (q := 395) (i := 3) rfl rfl rfl rfl ?_
  refine R_iconst (q := 396) rfl rfl ?_
  refine R_iadd (q := 397) rfl rfl ?_
  refine R_ialdX (q := 398) rfl rfl (by decide) (show 0 ≤ i + 1 ∧ i + 1 < ((L : Nat) : Int) by omega) ?_
  refine R_aload_n (q := 399) (i := 0) rfl rfl rfl rfl ?_
  refine R_iload_n (q := 400) (i := 3) rfl rfl rfl rfl ?_
  refine R_iconst (q := 401) rfl rfl ?_
  refine R_iadd (q := 402) rfl rfl ?_
  refine R_ialdX (q := 403) rfl rfl (by decide) (show 0 ≤ i + 2 ∧ i + 2 < ((L : Nat) : Int) by omega) ?_
  refine R_cV2I (q := 406) (ci := 6) (C := C_X6_trunk) rfl rfl rfl rfl rfl ⟨_, _, _, rfl, ⟨rfl, g, hsc _, hsc _⟩⟩ rfl rfl (by omega) (fun x M' hc => ?_)
  replace hc := hc _ _ _ rfl
  have hB := hc
  have hI : Inv (M' 12) := by rw [hB.1 12 (by decide) (by decide)]; exact g.2.1.1
  have t6 : M' 12 6 ≤ 9999 := by rw [hB.1 12 (by decide) (by decide)]; exact g.2.1.2
  have hs : 0 ≤ M' 11 1 ∧ M' 11 1 ≤ 4 := by rw [hB.1 11 (by decide) (by decide)]; exact g.2.2.1
  have pd : PdM M' := by unfold PdM; rw [hB.1 11 (by decide) (by decide), hB.1 14 (by decide) (by decide)]; exact g.2.2.2.2.2
  have h13 : ∀ s, s = 0 ∨ s = 1 → 0 ≤ M' 13 s ∧ M' 13 s ≤ 1 := fun s z => by
    rw [hB.1 13 (by decide) (by decide)]
    have := (g.2.2.2.2.1 s z).1
    omega
  refine R_aload_n (q := 407) (i := 2) rfl rfl rfl rfl ?_
  refine R_aload_n (q := 408) (i := 0) rfl rfl rfl rfl ?_
  refine R_iload_n (q := 409) (i := 3) rfl rfl rfl rfl ?_
  refine R_iconst (q := 410) rfl rfl ?_
  refine R_iadd (q := 411) rfl rfl ?_
  refine R_ialdX (q := 412) rfl rfl (by decide) (show 0 ≤ i + 1 ∧ i + 1 < ((L : Nat) : Int) by omega) ?_
  refine R_aload_n (q := 413) (i := 0) rfl rfl rfl rfl ?_
  refine R_iload_n (q := 414) (i := 3) rfl rfl rfl rfl ?_
  refine R_iconst (q := 415) rfl rfl ?_
  refine R_iadd (q := 416) rfl rfl ?_
  refine R_ialdX (q := 417) rfl rfl (by decide) (show 0 ≤ i + 2 ∧ i + 2 < ((L : Nat) : Int) by omega) ?_
  refine R_cV2I (q := 420) (ci := 7) (C := C_X7_trunk) rfl rfl rfl rfl rfl ⟨_, _, _, rfl, ⟨rfl, hsc _, hsc _, hI⟩⟩ rfl rfl (by omega) (fun x M' hc => ?_)
  replace hc := hc _ _ _ rfl
  skip
  obtain ⟨e, g2⟩ := hB.2 _ _ (fun _ _ _ e => by cases e; exact hc)
  subst e
  refine R_eqS (q := 423) (tgt := 813) rfl rfl (by decide) ?_
  exact hgo _ g2
set_option maxRecDepth 100000 in
set_option maxHeartbeats 1000000 in
theorem law_c9 (L : Nat) (scr : Int → Int) (i : Int) (M : Mem) (hsc : ∀ k, inr (xcF scr 0 k)) (hi : 0 ≤ i ∧ i + 4 < (L : Int)) (g : GI M) (hgo : ∀ N, GI N → Runs sx_L_law L (xcF scr) LQ 813 [wR 0, wR 3, wR 11, wI i] [] N) : Runs sx_L_law L (xcF scr) LQ 425 [wR 0, wR 3, wR 11, wI i] [] M := by
  refine R_aload_n (q := 426) (i := 1) rfl rfl rfl rfl ?_
  refine R_aload_n (q := 427) (i := 0) rfl rfl rfl rfl ?_
  refine R_iload_n (q := 428) (i := 3) rfl rfl rfl rfl ?_
  refine R_iconst (q := 429) rfl rfl ?_
  refine R_iadd (q := 430) rfl rfl ?_
  refine R_ialdX (q := 431) rfl rfl (by decide) (show 0 ≤ i + 1 ∧ i + 1 < ((L : Nat) : Int) by omega) ?_
  refine R_aload_n (q := 432) (i := 0) rfl rfl rfl rfl ?_
  refine R_iload_n (q := 433) (i := 3) rfl rfl rfl rfl ?_
  refine R_iconst (q := 434) rfl rfl ?_
  refine R_iadd (q := 435) rfl rfl ?_
  refine R_ialdX (q := 436) rfl rfl (by decide) (show 0 ≤ i + 2 ∧ i + 2 < ((L : Nat) : Int) by omega) ?_
  refine R_aload_n (q := 437) (i := 0) rfl rfl rfl rfl ?_
  refine R_iload_n (q := 438) (i := 3) rfl rfl rfl rfl ?_
  refine R_iconst (q := 439) rfl rfl ?_
  refine R_iadd (q := 440) rfl rfl ?_
  refine R_ialdX (q := 441) rfl rfl (by decide) (show 0 ≤ i + 3 ∧ i + 3 < ((L : Nat) : Int) by omega) ?_
  refine R_cV3I (q := 444) (ci := 6) (C := C_X6_pieces) rfl rfl rfl rfl rfl ⟨_, _, _, _, rfl, ⟨rfl, g, hsc _, hsc _, hsc _⟩⟩ rfl rfl (by omega) (fun x M' hc => ?_)
  replace hc := hc _ _ _ _ rfl
  have hB := hc
  have hI : Inv (M' 12) := by rw [hB.1 12 (by decide) (by decide)]; exact g.2.1.1
  have t6 : M' 12 6 ≤ 9999 := by rw [hB.1 12 (by decide) (by decide)]; exact g.2.1.2
  have hs : 0 ≤ M' 11 1 ∧ M' 11 1 ≤ 4 := by rw [hB.1 11 (by decide) (by decide)]; exact g.2.2.1
  have pd : PdM M' := by unfold PdM; rw [hB.1 11 (by decide) (by decide), hB.1 14 (by decide) (by decide)]; exact g.2.2.2.2.2
  have h13 : ∀ s, s = 0 ∨ s = 1 → 0 ≤ M' 13 s ∧ M' 13 s ≤ 1 := fun s z => by
    rw [hB.1 13 (by decide) (by decide)]
    have := (g.2.2.2.2.1 s z).1
    omega
  refine R_aload_n (q := 445) (i := 2) rfl rfl rfl rfl ?_
  refine R_aload_n (q := 446) (i := 0) rfl rfl rfl rfl ?_
  refine R_iload_n (q := 447) (i := 3) rfl rfl rfl rfl ?_
  refine R_iconst (q := 448) rfl rfl ?_
  refine R_iadd (q := 449) rfl rfl ?_
  refine R_ialdX (q := 450) rfl rfl (by decide) (show 0 ≤ i + 1 ∧ i + 1 < ((L : Nat) : Int) by omega) ?_
  refine R_aload_n (q := 451) (i := 0) rfl rfl rfl rfl ?_
  refine R_iload_n (q := 452) (i := 3) rfl rfl rfl rfl ?_
  refine R_iconst (q := 453) rfl rfl ?_
  refine R_iadd (q := 454) rfl rfl ?_
  refine R_ialdX (q := 455) rfl rfl (by decide) (show 0 ≤ i + 2 ∧ i + 2 < ((L : Nat) : Int) by omega) ?_
  refine R_aload_n (q := 456) (i := 0) rfl rfl rfl rfl ?_
  refine R_iload_n (q := 457) (i := 3) rfl rfl rfl rfl ?_
  refine R_iconst (q := 458) rfl rfl ?_
  refine R_iadd (q := 459) rfl rfl ?_
  refine R_ialdX (q := 460) rfl rfl (by decide) (show 0 ≤ i + 3 ∧ i + 3 < ((L : Nat) : Int) by omega) ?_
  refine R_cV3I (q := 463) (ci := 7) (C := C_X7_pieces) rfl rfl rfl rfl rfl ⟨_, _, _, _, rfl, ⟨rfl, hsc _, hsc _, hsc _, hI⟩⟩ rfl rfl (by omega) (fun x M' hc => ?_)
  replace hc := hc _ _ _ _ rfl
  skip
  obtain ⟨e, g2⟩ := hB.2 _ _ (fun _ _ _ _ e => by cases e; exact hc)
  subst e
  refine R_eqS (q := 466) (tgt := 813) rfl rfl (by decide) ?_
  exact hgo _ g2
set_option maxRecDepth 100000 in
set_option maxHeartbeats 1000000 in
theorem law_c10 (L : Nat) (scr : Int → Int) (i : Int) (M : Mem) (hsc : ∀ k, inr (xcF scr 0 k)) (hi : 0 ≤ i ∧ i + 4 < (L : Int)) (g : GI M) (hgo : ∀ N, GI N → Runs sx_L_law L (xcF scr) LQ 813 [wR 0, wR 3, wR 11, wI i] [] N) : Runs sx_L_law L (xcF scr) LQ 468 [wR 0, wR 3, wR 11, wI i] [] M := by
  refine R_aload_n (q := 469) (i := 1) rfl rfl rfl rfl ?_
  refine R_aload_n (q := 470) (i := 0) rfl rfl rfl rfl ?_
  refine R_iload_n (q := 471) (i := 3) rfl rfl rfl rfl ?_
  refine R_iconst (q := 472) rfl rfl ?_
  refine R_iadd (q := 473) rfl rfl ?_
  refine R_ialdX (q := 474) rfl rfl (by decide) (show 0 ≤ i + 1 ∧ i + 1 < ((L : Nat) : Int) by omega) ?_
  refine R_aload_n (q := 475) (i := 0) rfl rfl rfl rfl ?_
  refine R_iload_n (q := 476) (i := 3) rfl rfl rfl rfl ?_
  refine R_iconst (q := 477) rfl rfl ?_
  refine R_iadd (q := 478) rfl rfl ?_
  refine R_ialdX (q := 479) rfl rfl (by decide) (show 0 ≤ i + 2 ∧ i + 2 < ((L : Nat) : Int) by omega) ?_
  refine R_cV2I (q := 482) (ci := 6) (C := C_X6_alike) rfl rfl rfl rfl rfl ⟨_, _, _, rfl, ⟨rfl, g, hsc _, hsc _⟩⟩ rfl rfl (by omega) (fun x M' hc => ?_)
  replace hc := hc _ _ _ rfl
  have hB := hc
  have hI : Inv (M' 12) := by rw [hB.1 12 (by decide) (by decide)]; exact g.2.1.1
  have t6 : M' 12 6 ≤ 9999 := by rw [hB.1 12 (by decide) (by decide)]; exact g.2.1.2
  have hs : 0 ≤ M' 11 1 ∧ M' 11 1 ≤ 4 := by rw [hB.1 11 (by decide) (by decide)]; exact g.2.2.1
  have pd : PdM M' := by unfold PdM; rw [hB.1 11 (by decide) (by decide), hB.1 14 (by decide) (by decide)]; exact g.2.2.2.2.2
  have h13 : ∀ s, s = 0 ∨ s = 1 → 0 ≤ M' 13 s ∧ M' 13 s ≤ 1 := fun s z => by
    rw [hB.1 13 (by decide) (by decide)]
    have := (g.2.2.2.2.1 s z).1
    omega
  refine R_aload_n (q := 483) (i := 2) rfl rfl rfl rfl ?_
  refine R_aload_n (q := 484) (i := 0) rfl rfl rfl rfl ?_
  refine R_iload_n (q := 485) (i := 3) rfl rfl rfl rfl ?_
  refine R_iconst (q := 486) rfl rfl ?_
  refine R_iadd (q := 487) rfl rfl ?_
  refine R_ialdX (q := 488) rfl rfl (by decide) (show 0 ≤ i + 1 ∧ i + 1 < ((L : Nat) : Int) by omega) ?_
  refine R_aload_n (q := 489) (i := 0) rfl rfl rfl rfl ?_
  refine R_iload_n (q := 490) (i := 3) rfl rfl rfl rfl ?_
  refine R_iconst (q := 491) rfl rfl ?_
  refine R_iadd (q := 492) rfl rfl ?_
  refine R_ialdX (q := 493) rfl rfl (by decide) (show 0 ≤ i + 2 ∧ i + 2 < ((L : Nat) : Int) by omega) ?_
  refine R_cV2I (q := 496) (ci := 7) (C := C_X7_alike) rfl rfl rfl rfl rfl ⟨_, _, _, rfl, ⟨rfl, hsc _, hsc _, hI⟩⟩ rfl rfl (by omega) (fun x M' hc => ?_)
  replace hc := hc _ _ _ rfl
  skip
  obtain ⟨e, g2⟩ := hB.2 _ _ (fun _ _ _ e => by cases e; exact hc)
  subst e
  refine R_eqS (q := 499) (tgt := 813) rfl rfl (by decide) ?_
  exact hgo _ g2
set_option maxRecDepth 100000 in
set_option maxHeartbeats 1000000 in
theorem law_c11 (L : Nat) (scr : Int → Int) (i : Int) (M : Mem) (hsc : ∀ k, inr (xcF scr 0 k)) (hi : 0 ≤ i ∧ i + 4 < (L : Int)) (g : GI M) (hgo : ∀ N, GI N → Runs sx_L_law L (xcF scr) LQ 813 [wR 0, wR 3, wR 11, wI i] [] N) : Runs sx_L_law L (xcF scr) LQ 501 [wR 0, wR 3, wR 11, wI i] [] M := by
  refine R_aload_n (q := 502) (i := 1) rfl rfl rfl rfl ?_
  refine R_aload_n (q := 503) (i := 0) rfl rfl rfl rfl ?_
  refine R_iload_n (q := 504) (i := 3) rfl rfl rfl rfl ?_
  refine R_iconst (q := 505) rfl rfl ?_
  refine R_iadd (q := 506) rfl rfl ?_
  refine R_ialdX (q := 507) rfl rfl (by decide) (show 0 ≤ i + 1 ∧ i + 1 < ((L : Nat) : Int) by omega) ?_
  refine R_aload_n (q := 508) (i := 0) rfl rfl rfl rfl ?_
  refine R_iload_n (q := 509) (i := 3) rfl rfl rfl rfl ?_
  refine R_iconst (q := 510) rfl rfl ?_
  refine R_iadd (q := 511) rfl rfl ?_
  refine R_ialdX (q := 512) rfl rfl (by decide) (show 0 ≤ i + 2 ∧ i + 2 < ((L : Nat) : Int) by omega) ?_
  refine R_cV2I (q := 515) (ci := 6) (C := C_X6_desk) rfl rfl rfl rfl rfl ⟨_, _, _, rfl, ⟨rfl, g, hsc _, hsc _⟩⟩ rfl rfl (by omega) (fun x M' hc => ?_)
  replace hc := hc _ _ _ rfl
  have hB := hc
  have hI : Inv (M' 12) := by rw [hB.1 12 (by decide) (by decide)]; exact g.2.1.1
  have t6 : M' 12 6 ≤ 9999 := by rw [hB.1 12 (by decide) (by decide)]; exact g.2.1.2
  have hs : 0 ≤ M' 11 1 ∧ M' 11 1 ≤ 4 := by rw [hB.1 11 (by decide) (by decide)]; exact g.2.2.1
  have pd : PdM M' := by unfold PdM; rw [hB.1 11 (by decide) (by decide), hB.1 14 (by decide) (by decide)]; exact g.2.2.2.2.2
  have h13 : ∀ s, s = 0 ∨ s = 1 → 0 ≤ M' 13 s ∧ M' 13 s ≤ 1 := fun s z => by
    rw [hB.1 13 (by decide) (by decide)]
    have := (g.2.2.2.2.1 s z).1
    omega
  refine R_aload_n (q := 516) (i := 2) rfl rfl rfl rfl ?_
  refine R_aload_n (q := 517) (i := 0) rfl rfl rfl rfl ?_
  refine R_iload_n (q := 518) (i := 3) rfl rfl rfl rfl ?_
  refine R_iconst (q := 519) rfl rfl ?_
  refine R_iadd (q := 520) rfl rfl ?_
  refine R_ialdX (q := 521) rfl rfl (by decide) (show 0 ≤ i + 1 ∧ i + 1 < ((L : Nat) : Int) by omega) ?_
  refine R_aload_n (q := 522) (i := 0) rfl rfl rfl rfl ?_
  refine R_iload_n (q := 523) (i := 3) rfl rfl rfl rfl ?_
  refine R_iconst (q := 524) rfl rfl ?_
  refine R_iadd (q := 525) rfl rfl ?_
  refine R_ialdX (q := 526) rfl rfl (by decide) (show 0 ≤ i + 2 ∧ i + 2 < ((L : Nat) : Int) by omega) ?_
  refine R_cV2I (q := 529) (ci := 7) (C := C_X7_desk) rfl rfl rfl rfl rfl ⟨_, _, _, rfl, ⟨rfl, hsc _, hsc _, hI⟩⟩ rfl rfl (by omega) (fun x M' hc => ?_)
  replace hc := hc _ _ _ rfl
  skip
  obtain ⟨e, g2⟩ := hB.2 _ _ (fun _ _ _ e => by cases e; exact hc)
  subst e
  refine R_eqS (q := 532) (tgt := 813) rfl rfl (by decide) ?_
  exact hgo _ g2
set_option maxRecDepth 100000 in
set_option maxHeartbeats 1000000 in
theorem law_c12 (L : Nat) (scr : Int → Int) (i : Int) (M : Mem) (hsc : ∀ k, inr (xcF scr 0 k)) (hi : 0 ≤ i ∧ i + 4 < (L : Int)) (g : GI M) (hgo : ∀ N, GI N → Runs sx_L_law L (xcF scr) LQ 813 [wR 0, wR 3, wR 11, wI i] [] N) : Runs sx_L_law L (xcF scr) LQ 534 [wR 0, wR 3, wR 11, wI i] [] M := by
  refine R_aload_n (q := 535) (i := 1) rfl rfl rfl rfl ?_
  refine R_aload_n (q := 536) (i := 0) rfl rfl rfl rfl ?_
  refine R_iload_n (q := 537) (i := 3) rfl rfl rfl rfl ?_
  refine R_iconst (q := 538) rfl rfl ?_
  refine R_iadd (q := 539) rfl rfl ?_
  refine R_ialdX (q := 540) rfl rfl (by decide) (show 0 ≤ i + 1 ∧ i + 1 < ((L : Nat) : Int) by omega) ?_
  refine R_cV1I (q := 543) (ci := 6) (C := C_X6_count) rfl rfl rfl rfl rfl ⟨_, _, rfl, ⟨rfl, g, hsc _⟩⟩ rfl rfl (by omega) (fun x M' hc => ?_)
  replace hc := hc _ _ rfl
  have hB := hc
  have hI : Inv (M' 12) := by rw [hB.1 12 (by decide) (by decide)]; exact g.2.1.1
  have t6 : M' 12 6 ≤ 9999 := by rw [hB.1 12 (by decide) (by decide)]; exact g.2.1.2
  have hs : 0 ≤ M' 11 1 ∧ M' 11 1 ≤ 4 := by rw [hB.1 11 (by decide) (by decide)]; exact g.2.2.1
  have pd : PdM M' := by unfold PdM; rw [hB.1 11 (by decide) (by decide), hB.1 14 (by decide) (by decide)]; exact g.2.2.2.2.2
  have h13 : ∀ s, s = 0 ∨ s = 1 → 0 ≤ M' 13 s ∧ M' 13 s ≤ 1 := fun s z => by
    rw [hB.1 13 (by decide) (by decide)]
    have := (g.2.2.2.2.1 s z).1
    omega
  refine R_aload_n (q := 544) (i := 2) rfl rfl rfl rfl ?_
  refine R_aload_n (q := 545) (i := 0) rfl rfl rfl rfl ?_
  refine R_iload_n (q := 546) (i := 3) rfl rfl rfl rfl ?_
  refine R_iconst (q := 547) rfl rfl ?_
  refine R_iadd (q := 548) rfl rfl ?_
  refine R_ialdX (q := 549) rfl rfl (by decide) (show 0 ≤ i + 1 ∧ i + 1 < ((L : Nat) : Int) by omega) ?_
  refine R_cV1I (q := 552) (ci := 7) (C := C_X7_count) rfl rfl rfl rfl rfl ⟨_, _, rfl, ⟨rfl, hsc _⟩⟩ rfl rfl (by omega) (fun x M' hc => ?_)
  replace hc := hc _ _ rfl
  skip
  obtain ⟨e, g2⟩ := hB.2 _ _ (fun _ _ e => by cases e; exact hc)
  subst e
  refine R_eqS (q := 555) (tgt := 813) rfl rfl (by decide) ?_
  exact hgo _ g2
set_option maxRecDepth 100000 in
set_option maxHeartbeats 1000000 in
theorem law_c13 (L : Nat) (scr : Int → Int) (i : Int) (M : Mem) (hsc : ∀ k, inr (xcF scr 0 k)) (hi : 0 ≤ i ∧ i + 4 < (L : Int)) (g : GI M) (hgo : ∀ N, GI N → Runs sx_L_law L (xcF scr) LQ 813 [wR 0, wR 3, wR 11, wI i] [] N) : Runs sx_L_law L (xcF scr) LQ 557 [wR 0, wR 3, wR 11, wI i] [] M := by
  refine R_aload_n (q := 558) (i := 1) rfl rfl rfl rfl ?_
  refine R_aload_n (q := 559) (i := 0) rfl rfl rfl rfl ?_
  refine R_iload_n (q := 560) (i := 3) rfl rfl rfl rfl ?_
  refine R_iconst (q := 561) rfl rfl ?_
  refine R_iadd (q := 562) rfl rfl ?_
  refine R_ialdX (q := 563) rfl rfl (by decide) (show 0 ≤ i + 1 ∧ i + 1 < ((L : Nat) : Int) by omega) ?_
  refine R_cV1I (q := 566) (ci := 6) (C := C_X6_untilGone) rfl rfl rfl rfl rfl ⟨_, _, rfl, ⟨rfl, g, hsc _⟩⟩ rfl rfl (by omega) (fun x M' hc => ?_)
  replace hc := hc _ _ rfl
  have hB := hc
  have hI : Inv (M' 12) := by rw [hB.1 12 (by decide) (by decide)]; exact g.2.1.1
  have t6 : M' 12 6 ≤ 9999 := by rw [hB.1 12 (by decide) (by decide)]; exact g.2.1.2
  have hs : 0 ≤ M' 11 1 ∧ M' 11 1 ≤ 4 := by rw [hB.1 11 (by decide) (by decide)]; exact g.2.2.1
  have pd : PdM M' := by unfold PdM; rw [hB.1 11 (by decide) (by decide), hB.1 14 (by decide) (by decide)]; exact g.2.2.2.2.2
  have h13 : ∀ s, s = 0 ∨ s = 1 → 0 ≤ M' 13 s ∧ M' 13 s ≤ 1 := fun s z => by
    rw [hB.1 13 (by decide) (by decide)]
    have := (g.2.2.2.2.1 s z).1
    omega
  refine R_aload_n (q := 567) (i := 2) rfl rfl rfl rfl ?_
  refine R_aload_n (q := 568) (i := 0) rfl rfl rfl rfl ?_
  refine R_iload_n (q := 569) (i := 3) rfl rfl rfl rfl ?_
  refine R_iconst (q := 570) rfl rfl ?_
  refine R_iadd (q := 571) rfl rfl ?_
  refine R_ialdX (q := 572) rfl rfl (by decide) (show 0 ≤ i + 1 ∧ i + 1 < ((L : Nat) : Int) by omega) ?_
  refine R_cV1I (q := 575) (ci := 7) (C := C_X7_untilGone) rfl rfl rfl rfl rfl ⟨_, _, rfl, ⟨rfl, hsc _, hI⟩⟩ rfl rfl (by omega) (fun x M' hc => ?_)
  replace hc := hc _ _ rfl
  skip
  obtain ⟨e, g2⟩ := hB.2 _ _ (fun _ _ e => by cases e; exact hc)
  subst e
  refine R_eqS (q := 578) (tgt := 813) rfl rfl (by decide) ?_
  exact hgo _ g2
set_option maxRecDepth 100000 in
set_option maxHeartbeats 1000000 in
theorem law_c14 (L : Nat) (scr : Int → Int) (i : Int) (M : Mem) (hsc : ∀ k, inr (xcF scr 0 k)) (hi : 0 ≤ i ∧ i + 4 < (L : Int)) (g : GI M) (hgo : ∀ N, GI N → Runs sx_L_law L (xcF scr) LQ 813 [wR 0, wR 3, wR 11, wI i] [] N) : Runs sx_L_law L (xcF scr) LQ 580 [wR 0, wR 3, wR 11, wI i] [] M := by
  refine R_aload_n (q := 581) (i := 1) rfl rfl rfl rfl ?_
  refine R_aload_n (q := 582) (i := 0) rfl rfl rfl rfl ?_
  refine R_iload_n (q := 583) (i := 3) rfl rfl rfl rfl ?_
  refine R_iconst (q := 584) rfl rfl ?_
  refine R_iadd (q := 585) rfl rfl ?_
  refine R_ialdX (q := 586) rfl rfl (by decide) (show 0 ≤ i + 1 ∧ i + 1 < ((L : Nat) : Int) by omega) ?_
  refine R_cV1I (q := 589) (ci := 6) (C := C_X6_fate) rfl rfl rfl rfl rfl ⟨_, _, rfl, ⟨rfl, g, hsc _⟩⟩ rfl rfl (by omega) (fun x M' hc => ?_)
  replace hc := hc _ _ rfl
  have hB := hc
  have hI : Inv (M' 12) := by rw [hB.1 12 (by decide) (by decide)]; exact g.2.1.1
  have t6 : M' 12 6 ≤ 9999 := by rw [hB.1 12 (by decide) (by decide)]; exact g.2.1.2
  have hs : 0 ≤ M' 11 1 ∧ M' 11 1 ≤ 4 := by rw [hB.1 11 (by decide) (by decide)]; exact g.2.2.1
  have pd : PdM M' := by unfold PdM; rw [hB.1 11 (by decide) (by decide), hB.1 14 (by decide) (by decide)]; exact g.2.2.2.2.2
  have h13 : ∀ s, s = 0 ∨ s = 1 → 0 ≤ M' 13 s ∧ M' 13 s ≤ 1 := fun s z => by
    rw [hB.1 13 (by decide) (by decide)]
    have := (g.2.2.2.2.1 s z).1
    omega
  refine R_aload_n (q := 590) (i := 2) rfl rfl rfl rfl ?_
  refine R_aload_n (q := 591) (i := 0) rfl rfl rfl rfl ?_
  refine R_iload_n (q := 592) (i := 3) rfl rfl rfl rfl ?_
  refine R_iconst (q := 593) rfl rfl ?_
  refine R_iadd (q := 594) rfl rfl ?_
  refine R_ialdX (q := 595) rfl rfl (by decide) (show 0 ≤ i + 1 ∧ i + 1 < ((L : Nat) : Int) by omega) ?_
  refine R_cV1I (q := 598) (ci := 7) (C := C_X7_fate) rfl rfl rfl rfl rfl ⟨_, _, rfl, ⟨rfl, hsc _, hI⟩⟩ rfl rfl (by omega) (fun x M' hc => ?_)
  replace hc := hc _ _ rfl
  skip
  obtain ⟨e, g2⟩ := hB.2 _ _ (fun _ _ e => by cases e; exact hc)
  subst e
  refine R_eqS (q := 601) (tgt := 813) rfl rfl (by decide) ?_
  exact hgo _ g2
set_option maxRecDepth 100000 in
set_option maxHeartbeats 1000000 in
theorem law_c15 (L : Nat) (scr : Int → Int) (i : Int) (M : Mem) (hsc : ∀ k, inr (xcF scr 0 k)) (hi : 0 ≤ i ∧ i + 4 < (L : Int)) (g : GI M) (hgo : ∀ N, GI N → Runs sx_L_law L (xcF scr) LQ 813 [wR 0, wR 3, wR 11, wI i] [] N) : Runs sx_L_law L (xcF scr) LQ 603 [wR 0, wR 3, wR 11, wI i] [] M := by
  refine R_aload_n (q := 604) (i := 1) rfl rfl rfl rfl ?_
  refine R_cV0I (q := 607) (ci := 6) (C := C_X6_mostDoubted) rfl rfl rfl rfl rfl ⟨_, rfl, ⟨rfl, g⟩⟩ rfl rfl (by omega) (fun x M' hc => ?_)
  replace hc := hc _ rfl
  have hB := hc
  have hI : Inv (M' 12) := by rw [hB.1 12 (by decide) (by decide)]; exact g.2.1.1
  have t6 : M' 12 6 ≤ 9999 := by rw [hB.1 12 (by decide) (by decide)]; exact g.2.1.2
  have hs : 0 ≤ M' 11 1 ∧ M' 11 1 ≤ 4 := by rw [hB.1 11 (by decide) (by decide)]; exact g.2.2.1
  have pd : PdM M' := by unfold PdM; rw [hB.1 11 (by decide) (by decide), hB.1 14 (by decide) (by decide)]; exact g.2.2.2.2.2
  have h13 : ∀ s, s = 0 ∨ s = 1 → 0 ≤ M' 13 s ∧ M' 13 s ≤ 1 := fun s z => by
    rw [hB.1 13 (by decide) (by decide)]
    have := (g.2.2.2.2.1 s z).1
    omega
  refine R_aload_n (q := 608) (i := 2) rfl rfl rfl rfl ?_
  refine R_cV0I (q := 611) (ci := 7) (C := C_X7_mostDoubted) rfl rfl rfl rfl rfl ⟨_, rfl, ⟨rfl, hI⟩⟩ rfl rfl (by omega) (fun x M' hc => ?_)
  replace hc := hc _ rfl
  skip
  obtain ⟨e, g2⟩ := hB.2 _ _ (fun _ e => by cases e; exact hc)
  subst e
  refine R_eqS (q := 614) (tgt := 813) rfl rfl (by decide) ?_
  exact hgo _ g2
set_option maxRecDepth 100000 in
set_option maxHeartbeats 1000000 in
theorem law_c16 (L : Nat) (scr : Int → Int) (i : Int) (M : Mem) (hsc : ∀ k, inr (xcF scr 0 k)) (hi : 0 ≤ i ∧ i + 4 < (L : Int)) (g : GI M) (hgo : ∀ N, GI N → Runs sx_L_law L (xcF scr) LQ 813 [wR 0, wR 3, wR 11, wI i] [] N) : Runs sx_L_law L (xcF scr) LQ 616 [wR 0, wR 3, wR 11, wI i] [] M := by
  refine R_aload_n (q := 617) (i := 1) rfl rfl rfl rfl ?_
  refine R_aload_n (q := 618) (i := 0) rfl rfl rfl rfl ?_
  refine R_iload_n (q := 619) (i := 3) rfl rfl rfl rfl ?_
  refine R_iconst (q := 620) rfl rfl ?_
  refine R_iadd (q := 621) rfl rfl ?_
  refine R_ialdX (q := 622) rfl rfl (by decide) (show 0 ≤ i + 1 ∧ i + 1 < ((L : Nat) : Int) by omega) ?_
  refine R_aload_n (q := 623) (i := 0) rfl rfl rfl rfl ?_
  refine R_iload_n (q := 624) (i := 3) rfl rfl rfl rfl ?_
  refine R_iconst (q := 625) rfl rfl ?_
  refine R_iadd (q := 626) rfl rfl ?_
  refine R_ialdX (q := 627) rfl rfl (by decide) (show 0 ≤ i + 2 ∧ i + 2 < ((L : Nat) : Int) by omega) ?_
  refine R_cV2I (q := 630) (ci := 6) (C := C_X6_ifTurned) rfl rfl rfl rfl rfl ⟨_, _, _, rfl, ⟨rfl, g, hsc _, hsc _⟩⟩ rfl rfl (by omega) (fun x M' hc => ?_)
  replace hc := hc _ _ _ rfl
  have hB := hc
  have hI : Inv (M' 12) := by rw [hB.1 12 (by decide) (by decide)]; exact g.2.1.1
  have t6 : M' 12 6 ≤ 9999 := by rw [hB.1 12 (by decide) (by decide)]; exact g.2.1.2
  have hs : 0 ≤ M' 11 1 ∧ M' 11 1 ≤ 4 := by rw [hB.1 11 (by decide) (by decide)]; exact g.2.2.1
  have pd : PdM M' := by unfold PdM; rw [hB.1 11 (by decide) (by decide), hB.1 14 (by decide) (by decide)]; exact g.2.2.2.2.2
  have h13 : ∀ s, s = 0 ∨ s = 1 → 0 ≤ M' 13 s ∧ M' 13 s ≤ 1 := fun s z => by
    rw [hB.1 13 (by decide) (by decide)]
    have := (g.2.2.2.2.1 s z).1
    omega
  refine R_aload_n (q := 631) (i := 2) rfl rfl rfl rfl ?_
  refine R_aload_n (q := 632) (i := 0) rfl rfl rfl rfl ?_
  refine R_iload_n (q := 633) (i := 3) rfl rfl rfl rfl ?_
  refine R_iconst (q := 634) rfl rfl ?_
  refine R_iadd (q := 635) rfl rfl ?_
  refine R_ialdX (q := 636) rfl rfl (by decide) (show 0 ≤ i + 1 ∧ i + 1 < ((L : Nat) : Int) by omega) ?_
  refine R_aload_n (q := 637) (i := 0) rfl rfl rfl rfl ?_
  refine R_iload_n (q := 638) (i := 3) rfl rfl rfl rfl ?_
  refine R_iconst (q := 639) rfl rfl ?_
  refine R_iadd (q := 640) rfl rfl ?_
  refine R_ialdX (q := 641) rfl rfl (by decide) (show 0 ≤ i + 2 ∧ i + 2 < ((L : Nat) : Int) by omega) ?_
  refine R_cV2I (q := 644) (ci := 7) (C := C_X7_ifTurned) rfl rfl rfl rfl rfl ⟨_, _, _, rfl, ⟨rfl, hsc _, hsc _, hI⟩⟩ rfl rfl (by omega) (fun x M' hc => ?_)
  replace hc := hc _ _ _ rfl
  skip
  obtain ⟨e, g2⟩ := hB.2 _ _ (fun _ _ _ e => by cases e; exact hc)
  subst e
  refine R_eqS (q := 647) (tgt := 813) rfl rfl (by decide) ?_
  exact hgo _ g2
set_option maxRecDepth 100000 in
set_option maxHeartbeats 1000000 in
theorem law_c17 (L : Nat) (scr : Int → Int) (i : Int) (M : Mem) (hsc : ∀ k, inr (xcF scr 0 k)) (hi : 0 ≤ i ∧ i + 4 < (L : Int)) (g : GI M) (hgo : ∀ N, GI N → Runs sx_L_law L (xcF scr) LQ 813 [wR 0, wR 3, wR 11, wI i] [] N) : Runs sx_L_law L (xcF scr) LQ 649 [wR 0, wR 3, wR 11, wI i] [] M := by
  refine R_aload_n (q := 650) (i := 1) rfl rfl rfl rfl ?_
  refine R_cV0I (q := 653) (ci := 6) (C := C_X6_bestHand) rfl rfl rfl rfl rfl ⟨_, rfl, ⟨rfl, g⟩⟩ rfl rfl (by omega) (fun x M' hc => ?_)
  replace hc := hc _ rfl
  have hB := hc
  have hI : Inv (M' 12) := by rw [hB.1 12 (by decide) (by decide)]; exact g.2.1.1
  have t6 : M' 12 6 ≤ 9999 := by rw [hB.1 12 (by decide) (by decide)]; exact g.2.1.2
  have hs : 0 ≤ M' 11 1 ∧ M' 11 1 ≤ 4 := by rw [hB.1 11 (by decide) (by decide)]; exact g.2.2.1
  have pd : PdM M' := by unfold PdM; rw [hB.1 11 (by decide) (by decide), hB.1 14 (by decide) (by decide)]; exact g.2.2.2.2.2
  have h13 : ∀ s, s = 0 ∨ s = 1 → 0 ≤ M' 13 s ∧ M' 13 s ≤ 1 := fun s z => by
    rw [hB.1 13 (by decide) (by decide)]
    have := (g.2.2.2.2.1 s z).1
    omega
  refine R_aload_n (q := 654) (i := 2) rfl rfl rfl rfl ?_
  refine R_cV0I (q := 657) (ci := 7) (C := C_X7_bestHand) rfl rfl rfl rfl rfl ⟨_, rfl, ⟨rfl, hI⟩⟩ rfl rfl (by omega) (fun x M' hc => ?_)
  replace hc := hc _ rfl
  skip
  obtain ⟨e, g2⟩ := hB.2 _ _ (fun _ e => by cases e; exact hc)
  subst e
  refine R_eqS (q := 660) (tgt := 813) rfl rfl (by decide) ?_
  exact hgo _ g2
set_option maxRecDepth 100000 in
set_option maxHeartbeats 1000000 in
theorem law_c18 (L : Nat) (scr : Int → Int) (i : Int) (M : Mem) (hsc : ∀ k, inr (xcF scr 0 k)) (hi : 0 ≤ i ∧ i + 4 < (L : Int)) (g : GI M) (hgo : ∀ N, GI N → Runs sx_L_law L (xcF scr) LQ 813 [wR 0, wR 3, wR 11, wI i] [] N) : Runs sx_L_law L (xcF scr) LQ 662 [wR 0, wR 3, wR 11, wI i] [] M := by
  refine R_aload_n (q := 663) (i := 1) rfl rfl rfl rfl ?_
  refine R_cV0I (q := 666) (ci := 6) (C := C_X6_leastSmall) rfl rfl rfl rfl rfl ⟨_, rfl, ⟨rfl, g⟩⟩ rfl rfl (by omega) (fun x M' hc => ?_)
  replace hc := hc _ rfl
  have hB := hc
  have hI : Inv (M' 12) := by rw [hB.1 12 (by decide) (by decide)]; exact g.2.1.1
  have t6 : M' 12 6 ≤ 9999 := by rw [hB.1 12 (by decide) (by decide)]; exact g.2.1.2
  have hs : 0 ≤ M' 11 1 ∧ M' 11 1 ≤ 4 := by rw [hB.1 11 (by decide) (by decide)]; exact g.2.2.1
  have pd : PdM M' := by unfold PdM; rw [hB.1 11 (by decide) (by decide), hB.1 14 (by decide) (by decide)]; exact g.2.2.2.2.2
  have h13 : ∀ s, s = 0 ∨ s = 1 → 0 ≤ M' 13 s ∧ M' 13 s ≤ 1 := fun s z => by
    rw [hB.1 13 (by decide) (by decide)]
    have := (g.2.2.2.2.1 s z).1
    omega
  refine R_aload_n (q := 667) (i := 2) rfl rfl rfl rfl ?_
  refine R_cV0I (q := 670) (ci := 7) (C := C_X7_leastSmall) rfl rfl rfl rfl rfl ⟨_, rfl, ⟨rfl, hI⟩⟩ rfl rfl (by omega) (fun x M' hc => ?_)
  replace hc := hc _ rfl
  skip
  obtain ⟨e, g2⟩ := hB.2 _ _ (fun _ e => by cases e; exact hc)
  subst e
  refine R_eqS (q := 673) (tgt := 813) rfl rfl (by decide) ?_
  exact hgo _ g2
set_option maxRecDepth 100000 in
set_option maxHeartbeats 1000000 in
theorem law_c19 (L : Nat) (scr : Int → Int) (i : Int) (M : Mem) (hsc : ∀ k, inr (xcF scr 0 k)) (hi : 0 ≤ i ∧ i + 4 < (L : Int)) (g : GI M) (hgo : ∀ N, GI N → Runs sx_L_law L (xcF scr) LQ 813 [wR 0, wR 3, wR 11, wI i] [] N) : Runs sx_L_law L (xcF scr) LQ 675 [wR 0, wR 3, wR 11, wI i] [] M := by
  refine R_aload_n (q := 676) (i := 1) rfl rfl rfl rfl ?_
  refine R_aload_n (q := 677) (i := 0) rfl rfl rfl rfl ?_
  refine R_iload_n (q := 678) (i := 3) rfl rfl rfl rfl ?_
  refine R_iconst (q := 679) rfl rfl ?_
  refine R_iadd (q := 680) rfl rfl ?_
  refine R_ialdX (q := 681) rfl rfl (by decide) (show 0 ≤ i + 1 ∧ i + 1 < ((L : Nat) : Int) by omega) ?_
  refine R_i2l (q := 682) rfl rfl (hsc _) ?_
  refine R_bipush (q := 684) rfl rfl (by decide) ?_
  refine R_lshl (q := 685) rfl rfl ?_
  refine R_aload_n (q := 686) (i := 0) rfl rfl rfl rfl ?_
  refine R_iload_n (q := 687) (i := 3) rfl rfl rfl rfl ?_
  refine R_iconst (q := 688) rfl rfl ?_
  refine R_iadd (q := 689) rfl rfl ?_
  refine R_ialdX (q := 690) rfl rfl (by decide) (show 0 ≤ i + 2 ∧ i + 2 < ((L : Nat) : Int) by omega) ?_
  refine R_i2l (q := 691) rfl rfl (hsc _) ?_
  refine R_ldc2 (q := 694) rfl rfl rfl ?_
  refine R_land (q := 695) rfl rfl ?_
  refine R_lor (q := 696) rfl rfl ?_
  refine R_cV1I (q := 699) (ci := 6) (C := C_X6_put) rfl rfl rfl rfl rfl ⟨_, _, rfl, ⟨rfl, g, xlor_in _ _⟩⟩ rfl rfl (by omega) (fun x M' hc => ?_)
  replace hc := hc _ _ rfl
  have hB := hc
  have hI : Inv (M' 12) := by rw [hB.1 12 (by decide) (by decide)]; exact g.2.1.1
  have t6 : M' 12 6 ≤ 9999 := by rw [hB.1 12 (by decide) (by decide)]; exact g.2.1.2
  have hs : 0 ≤ M' 11 1 ∧ M' 11 1 ≤ 4 := by rw [hB.1 11 (by decide) (by decide)]; exact g.2.2.1
  have pd : PdM M' := by unfold PdM; rw [hB.1 11 (by decide) (by decide), hB.1 14 (by decide) (by decide)]; exact g.2.2.2.2.2
  have h13 : ∀ s, s = 0 ∨ s = 1 → 0 ≤ M' 13 s ∧ M' 13 s ≤ 1 := fun s z => by
    rw [hB.1 13 (by decide) (by decide)]
    have := (g.2.2.2.2.1 s z).1
    omega
  refine R_aload_n (q := 700) (i := 2) rfl rfl rfl rfl ?_
  refine R_aload_n (q := 701) (i := 0) rfl rfl rfl rfl ?_
  refine R_iload_n (q := 702) (i := 3) rfl rfl rfl rfl ?_
  refine R_iconst (q := 703) rfl rfl ?_
  refine R_iadd (q := 704) rfl rfl ?_
  refine R_ialdX (q := 705) rfl rfl (by decide) (show 0 ≤ i + 1 ∧ i + 1 < ((L : Nat) : Int) by omega) ?_
  refine R_i2l (q := 706) rfl rfl (hsc _) ?_
  refine R_bipush (q := 708) rfl rfl (by decide) ?_
  refine R_lshl (q := 709) rfl rfl ?_
  refine R_aload_n (q := 710) (i := 0) rfl rfl rfl rfl ?_
  refine R_iload_n (q := 711) (i := 3) rfl rfl rfl rfl ?_
  refine R_iconst (q := 712) rfl rfl ?_
  refine R_iadd (q := 713) rfl rfl ?_
  refine R_ialdX (q := 714) rfl rfl (by decide) (show 0 ≤ i + 2 ∧ i + 2 < ((L : Nat) : Int) by omega) ?_
  refine R_i2l (q := 715) rfl rfl (hsc _) ?_
  refine R_ldc2 (q := 718) rfl rfl rfl ?_
  refine R_land (q := 719) rfl rfl ?_
  refine R_lor (q := 720) rfl rfl ?_
  refine R_cV1I (q := 723) (ci := 7) (C := C_X7_put) rfl rfl rfl rfl rfl ⟨_, _, rfl, ⟨rfl, xlor_in _ _, pd⟩⟩ rfl rfl (by omega) (fun x M' hc => ?_)
  replace hc := hc _ _ rfl
  skip
  obtain ⟨e, g2⟩ := hB.2 _ _ (fun _ _ e => by cases e; exact hc)
  subst e
  refine R_eqS (q := 726) (tgt := 813) rfl rfl (by decide) ?_
  exact hgo _ g2
set_option maxRecDepth 100000 in
set_option maxHeartbeats 1000000 in
theorem law_c20 (L : Nat) (scr : Int → Int) (i : Int) (M : Mem) (hsc : ∀ k, inr (xcF scr 0 k)) (hi : 0 ≤ i ∧ i + 4 < (L : Int)) (g : GI M) (hgo : ∀ N, GI N → Runs sx_L_law L (xcF scr) LQ 813 [wR 0, wR 3, wR 11, wI i] [] N) : Runs sx_L_law L (xcF scr) LQ 728 [wR 0, wR 3, wR 11, wI i] [] M := by
  refine R_aload_n (q := 729) (i := 1) rfl rfl rfl rfl ?_
  refine R_cV0I (q := 732) (ci := 6) (C := C_X6_wipe) rfl rfl rfl rfl rfl ⟨_, rfl, ⟨rfl, g⟩⟩ rfl rfl (by omega) (fun x M' hc => ?_)
  replace hc := hc _ rfl
  have hB := hc
  have hI : Inv (M' 12) := by rw [hB.1 12 (by decide) (by decide)]; exact g.2.1.1
  have t6 : M' 12 6 ≤ 9999 := by rw [hB.1 12 (by decide) (by decide)]; exact g.2.1.2
  have hs : 0 ≤ M' 11 1 ∧ M' 11 1 ≤ 4 := by rw [hB.1 11 (by decide) (by decide)]; exact g.2.2.1
  have pd : PdM M' := by unfold PdM; rw [hB.1 11 (by decide) (by decide), hB.1 14 (by decide) (by decide)]; exact g.2.2.2.2.2
  have h13 : ∀ s, s = 0 ∨ s = 1 → 0 ≤ M' 13 s ∧ M' 13 s ≤ 1 := fun s z => by
    rw [hB.1 13 (by decide) (by decide)]
    have := (g.2.2.2.2.1 s z).1
    omega
  refine R_aload_n (q := 733) (i := 2) rfl rfl rfl rfl ?_
  refine R_cV0I (q := 736) (ci := 7) (C := C_X7_wipe) rfl rfl rfl rfl rfl ⟨_, rfl, rfl⟩ rfl rfl (by omega) (fun x M' hc => ?_)
  replace hc := hc _ rfl
  skip
  obtain ⟨e, g2⟩ := hB.2 _ _ (fun _ e => by cases e; exact hc)
  subst e
  refine R_eqS (q := 739) (tgt := 813) rfl rfl (by decide) ?_
  exact hgo _ g2
set_option maxRecDepth 100000 in
set_option maxHeartbeats 1000000 in
theorem law_c21 (L : Nat) (scr : Int → Int) (i : Int) (M : Mem) (hsc : ∀ k, inr (xcF scr 0 k)) (hi : 0 ≤ i ∧ i + 4 < (L : Int)) (g : GI M) (hgo : ∀ N, GI N → Runs sx_L_law L (xcF scr) LQ 813 [wR 0, wR 3, wR 11, wI i] [] N) : Runs sx_L_law L (xcF scr) LQ 741 [wR 0, wR 3, wR 11, wI i] [] M := by
  refine R_aload_n (q := 742) (i := 1) rfl rfl rfl rfl ?_
  refine R_cV0I (q := 745) (ci := 6) (C := C_X6_fault) rfl rfl rfl rfl rfl ⟨_, rfl, ⟨rfl, g⟩⟩ rfl rfl (by omega) (fun x M' hc => ?_)
  replace hc := hc _ rfl
  have hB := hc
  have hI : Inv (M' 12) := by rw [hB.1 12 (by decide) (by decide)]; exact g.2.1.1
  have t6 : M' 12 6 ≤ 9999 := by rw [hB.1 12 (by decide) (by decide)]; exact g.2.1.2
  have hs : 0 ≤ M' 11 1 ∧ M' 11 1 ≤ 4 := by rw [hB.1 11 (by decide) (by decide)]; exact g.2.2.1
  have pd : PdM M' := by unfold PdM; rw [hB.1 11 (by decide) (by decide), hB.1 14 (by decide) (by decide)]; exact g.2.2.2.2.2
  have h13 : ∀ s, s = 0 ∨ s = 1 → 0 ≤ M' 13 s ∧ M' 13 s ≤ 1 := fun s z => by
    rw [hB.1 13 (by decide) (by decide)]
    have := (g.2.2.2.2.1 s z).1
    omega
  refine R_aload_n (q := 746) (i := 2) rfl rfl rfl rfl ?_
  refine R_cV0I (q := 749) (ci := 7) (C := C_X7_fault) rfl rfl rfl rfl rfl ⟨_, rfl, ⟨rfl, pd⟩⟩ rfl rfl (by omega) (fun x M' hc => ?_)
  replace hc := hc _ rfl
  skip
  obtain ⟨e, g2⟩ := hB.2 _ _ (fun _ e => by cases e; exact hc)
  subst e
  refine R_eqS (q := 752) (tgt := 813) rfl rfl (by decide) ?_
  exact hgo _ g2
set_option maxRecDepth 100000 in
set_option maxHeartbeats 1000000 in
theorem law_c22 (L : Nat) (scr : Int → Int) (i : Int) (M : Mem) (hsc : ∀ k, inr (xcF scr 0 k)) (hi : 0 ≤ i ∧ i + 4 < (L : Int)) (g : GI M) (hgo : ∀ N, GI N → Runs sx_L_law L (xcF scr) LQ 813 [wR 0, wR 3, wR 11, wI i] [] N) : Runs sx_L_law L (xcF scr) LQ 754 [wR 0, wR 3, wR 11, wI i] [] M := by
  refine R_aload_n (q := 755) (i := 1) rfl rfl rfl rfl ?_
  refine R_cV0I (q := 758) (ci := 6) (C := C_X6_undo) rfl rfl rfl rfl rfl ⟨_, rfl, ⟨rfl, g⟩⟩ rfl rfl (by omega) (fun x M' hc => ?_)
  replace hc := hc _ rfl
  have hB := hc
  have hI : Inv (M' 12) := by rw [hB.1 12 (by decide) (by decide)]; exact g.2.1.1
  have t6 : M' 12 6 ≤ 9999 := by rw [hB.1 12 (by decide) (by decide)]; exact g.2.1.2
  have hs : 0 ≤ M' 11 1 ∧ M' 11 1 ≤ 4 := by rw [hB.1 11 (by decide) (by decide)]; exact g.2.2.1
  have pd : PdM M' := by unfold PdM; rw [hB.1 11 (by decide) (by decide), hB.1 14 (by decide) (by decide)]; exact g.2.2.2.2.2
  have h13 : ∀ s, s = 0 ∨ s = 1 → 0 ≤ M' 13 s ∧ M' 13 s ≤ 1 := fun s z => by
    rw [hB.1 13 (by decide) (by decide)]
    have := (g.2.2.2.2.1 s z).1
    omega
  refine R_aload_n (q := 759) (i := 2) rfl rfl rfl rfl ?_
  refine R_cV0I (q := 762) (ci := 7) (C := C_X7_undo) rfl rfl rfl rfl rfl ⟨_, rfl, ⟨rfl, hs⟩⟩ rfl rfl (by omega) (fun x M' hc => ?_)
  replace hc := hc _ rfl
  skip
  obtain ⟨e, g2⟩ := hB.2 _ _ (fun _ e => by cases e; exact hc)
  subst e
  refine R_eqS (q := 765) (tgt := 813) rfl rfl (by decide) ?_
  exact hgo _ g2
set_option maxRecDepth 100000 in
set_option maxHeartbeats 1000000 in
theorem law_c23 (L : Nat) (scr : Int → Int) (i : Int) (M : Mem) (hsc : ∀ k, inr (xcF scr 0 k)) (hi : 0 ≤ i ∧ i + 4 < (L : Int)) (g : GI M) (hgo : ∀ N, GI N → Runs sx_L_law L (xcF scr) LQ 813 [wR 0, wR 3, wR 11, wI i] [] N) : Runs sx_L_law L (xcF scr) LQ 767 [wR 0, wR 3, wR 11, wI i] [] M := by
  refine R_aload_n (q := 768) (i := 1) rfl rfl rfl rfl ?_
  refine R_aload_n (q := 769) (i := 0) rfl rfl rfl rfl ?_
  refine R_iload_n (q := 770) (i := 3) rfl rfl rfl rfl ?_
  refine R_iconst (q := 771) rfl rfl ?_
  refine R_iadd (q := 772) rfl rfl ?_
  refine R_ialdX (q := 773) rfl rfl (by decide) (show 0 ≤ i + 1 ∧ i + 1 < ((L : Nat) : Int) by omega) ?_
  refine R_cV1I (q := 776) (ci := 6) (C := C_X6_save) rfl rfl rfl rfl rfl ⟨_, _, rfl, ⟨rfl, g, hsc _⟩⟩ rfl rfl (by omega) (fun x M' hc => ?_)
  replace hc := hc _ _ rfl
  have hB := hc
  have hI : Inv (M' 12) := by rw [hB.1 12 (by decide) (by decide)]; exact g.2.1.1
  have t6 : M' 12 6 ≤ 9999 := by rw [hB.1 12 (by decide) (by decide)]; exact g.2.1.2
  have hs : 0 ≤ M' 11 1 ∧ M' 11 1 ≤ 4 := by rw [hB.1 11 (by decide) (by decide)]; exact g.2.2.1
  have pd : PdM M' := by unfold PdM; rw [hB.1 11 (by decide) (by decide), hB.1 14 (by decide) (by decide)]; exact g.2.2.2.2.2
  have h13 : ∀ s, s = 0 ∨ s = 1 → 0 ≤ M' 13 s ∧ M' 13 s ≤ 1 := fun s z => by
    rw [hB.1 13 (by decide) (by decide)]
    have := (g.2.2.2.2.1 s z).1
    omega
  refine R_aload_n (q := 777) (i := 2) rfl rfl rfl rfl ?_
  refine R_aload_n (q := 778) (i := 0) rfl rfl rfl rfl ?_
  refine R_iload_n (q := 779) (i := 3) rfl rfl rfl rfl ?_
  refine R_iconst (q := 780) rfl rfl ?_
  refine R_iadd (q := 781) rfl rfl ?_
  refine R_ialdX (q := 782) rfl rfl (by decide) (show 0 ≤ i + 1 ∧ i + 1 < ((L : Nat) : Int) by omega) ?_
  refine R_cV1I (q := 785) (ci := 7) (C := C_X7_save) rfl rfl rfl rfl rfl ⟨_, _, rfl, ⟨rfl, hsc _⟩⟩ rfl rfl (by omega) (fun x M' hc => ?_)
  replace hc := hc _ _ rfl
  skip
  obtain ⟨e, g2⟩ := hB.2 _ _ (fun _ _ e => by cases e; exact hc)
  subst e
  refine R_eqS (q := 788) (tgt := 813) rfl rfl (by decide) ?_
  exact hgo _ g2
set_option maxRecDepth 100000 in
set_option maxHeartbeats 1000000 in
theorem law_c24 (L : Nat) (scr : Int → Int) (i : Int) (M : Mem) (hsc : ∀ k, inr (xcF scr 0 k)) (hi : 0 ≤ i ∧ i + 4 < (L : Int)) (g : GI M) (hgo : ∀ N, GI N → Runs sx_L_law L (xcF scr) LQ 813 [wR 0, wR 3, wR 11, wI i] [] N) : Runs sx_L_law L (xcF scr) LQ 790 [wR 0, wR 3, wR 11, wI i] [] M := by
  refine R_aload_n (q := 791) (i := 1) rfl rfl rfl rfl ?_
  refine R_aload_n (q := 792) (i := 0) rfl rfl rfl rfl ?_
  refine R_iload_n (q := 793) (i := 3) rfl rfl rfl rfl ?_
  refine R_iconst (q := 794) rfl rfl ?_
  refine R_iadd (q := 795) rfl rfl ?_
  refine R_ialdX (q := 796) rfl rfl (by decide) (show 0 ≤ i + 1 ∧ i + 1 < ((L : Nat) : Int) by omega) ?_
  refine R_cV1I (q := 799) (ci := 6) (C := C_X6_restore) rfl rfl rfl rfl rfl ⟨_, _, rfl, ⟨rfl, g, hsc _⟩⟩ rfl rfl (by omega) (fun x M' hc => ?_)
  replace hc := hc _ _ rfl
  have hB := hc
  have hI : Inv (M' 12) := by rw [hB.1 12 (by decide) (by decide)]; exact g.2.1.1
  have t6 : M' 12 6 ≤ 9999 := by rw [hB.1 12 (by decide) (by decide)]; exact g.2.1.2
  have hs : 0 ≤ M' 11 1 ∧ M' 11 1 ≤ 4 := by rw [hB.1 11 (by decide) (by decide)]; exact g.2.2.1
  have pd : PdM M' := by unfold PdM; rw [hB.1 11 (by decide) (by decide), hB.1 14 (by decide) (by decide)]; exact g.2.2.2.2.2
  have h13 : ∀ s, s = 0 ∨ s = 1 → 0 ≤ M' 13 s ∧ M' 13 s ≤ 1 := fun s z => by
    rw [hB.1 13 (by decide) (by decide)]
    have := (g.2.2.2.2.1 s z).1
    omega
  refine R_aload_n (q := 800) (i := 2) rfl rfl rfl rfl ?_
  refine R_aload_n (q := 801) (i := 0) rfl rfl rfl rfl ?_
  refine R_iload_n (q := 802) (i := 3) rfl rfl rfl rfl ?_
  refine R_iconst (q := 803) rfl rfl ?_
  refine R_iadd (q := 804) rfl rfl ?_
  refine R_ialdX (q := 805) rfl rfl (by decide) (show 0 ≤ i + 1 ∧ i + 1 < ((L : Nat) : Int) by omega) ?_
  refine R_cV1I (q := 808) (ci := 7) (C := C_X7_restoreB) rfl rfl rfl rfl rfl ⟨_, _, rfl, ⟨rfl, hsc _, h13 _, hs⟩⟩ rfl rfl (by omega) (fun x M' hc => ?_)
  replace hc := hc _ _ rfl
  skip
  obtain ⟨e, g2⟩ := hB.2 _ _ (fun _ _ e => by cases e; exact hc)
  subst e
  refine R_eqS (q := 811) (tgt := 813) rfl rfl (by decide) ?_
  exact hgo _ g2
set_option maxRecDepth 100000 in
theorem law_18 (L : Nat) (scr : Int → Int) (hL : L ≤ 2560) (hsc : ∀ k, inr (xcF scr 0 k)) : ∀ (n : Nat) (i : Int) (M : Mem), 0 ≤ i → i ≤ (L : Int) → (L : Int) ≤ i + n → GI M → Runs sx_L_law L (xcF scr) LQ 18 [wR 0, wR 3, wR 11, wI i] [] M := by
  intro n
  induction n with
  | zero =>
    intro i M i0 i1 i2 g
    refine R_iload_n (q := 19) (i := 3) rfl rfl rfl rfl ?_
    refine R_aload_n (q := 20) (i := 0) rfl rfl rfl rfl ?_
    refine R_alenX (q := 21) rfl rfl (by decide) ?_
    rw [show exN L 0 = L from rfl]
    refine R_iconst (q := 22) rfl rfl ?_
    refine R_isub (q := 23) rfl rfl ?_
    refine R_icmp_gt (q := 26) (tgt := 819) rfl rfl (by decide) (by omega) (by omega) (fun h23 => ?_) (fun h23 => ?_)
    · refine R_iconst (q := 820) rfl rfl ?_
      exact R_ret rfl (Or.inr ⟨rfl, Or.inr rfl⟩) rfl
    · omega
  | succ n ih =>
    intro i M i0 i1 i2 g
    refine R_iload_n (q := 19) (i := 3) rfl rfl rfl rfl ?_
    refine R_aload_n (q := 20) (i := 0) rfl rfl rfl rfl ?_
    refine R_alenX (q := 21) rfl rfl (by decide) ?_
    rw [show exN L 0 = L from rfl]
    refine R_iconst (q := 22) rfl rfl ?_
    refine R_isub (q := 23) rfl rfl ?_
    refine R_icmp_gt (q := 26) (tgt := 819) rfl rfl (by decide) (by omega) (by omega) (fun h23 => ?_) (fun h23 => ?_)
    · refine R_iconst (q := 820) rfl rfl ?_
      exact R_ret rfl (Or.inr ⟨rfl, Or.inr rfl⟩) rfl
    · refine R_aload_n (q := 27) (i := 0) rfl rfl rfl rfl ?_
      refine R_iload_n (q := 28) (i := 3) rfl rfl rfl rfl ?_
      refine R_ialdX (q := 29) rfl rfl (by decide) (show 0 ≤ i ∧ i < ((L : Nat) : Int) by omega) ?_
      refine R_bipush (q := 31) rfl rfl (by decide) ?_
      refine R_iand (q := 32) rfl rfl ?_
      obtain ⟨w, hw⟩ : ∃ w, w = xiand (xcF scr 0 i) 31 := ⟨_, rfl⟩
      rw [← hw]
      have hin : inr w := by rw [hw]; exact inr_toInt _
      clear hw
      have hi : 0 ≤ i ∧ i + 4 < (L : Int) := by omega
      have hgo : ∀ N, GI N → Runs sx_L_law L (xcF scr) LQ 813 [wR 0, wR 3, wR 11, wI i] [] N := fun N gN => by
        refine R_iinc (q := 816) rfl rfl rfl rfl ?_
        refine R_goto (q := 819) (tgt := 18) rfl rfl (by decide) ?_
        exact ih (i + 5) N (by omega) (by omega) (by omega) gN
      by_cases w0 : w = 0
      · subst w0
        exact R_tblIn (q := 148) (off := 116) (tgt := 148) rfl rfl (by decide) (by decide) rfl (by decide) (law_c0 L scr i M hsc hi g hgo)
      by_cases w1 : w = 1
      · subst w1
        exact R_tblIn (q := 148) (off := 149) (tgt := 181) rfl rfl (by decide) (by decide) rfl (by decide) (law_c1 L scr i M hsc hi g hgo)
      by_cases w2 : w = 2
      · subst w2
        exact R_tblIn (q := 148) (off := 182) (tgt := 214) rfl rfl (by decide) (by decide) rfl (by decide) (law_c2 L scr i M hsc hi g hgo)
      by_cases w3 : w = 3
      · subst w3
        exact R_tblIn (q := 148) (off := 215) (tgt := 247) rfl rfl (by decide) (by decide) rfl (by decide) (law_c3 L scr i M hsc hi g hgo)
      by_cases w4 : w = 4
      · subst w4
        exact R_tblIn (q := 148) (off := 248) (tgt := 280) rfl rfl (by decide) (by decide) rfl (by decide) (law_c4 L scr i M hsc hi g hgo)
      by_cases w5 : w = 5
      · subst w5
        exact R_tblIn (q := 148) (off := 261) (tgt := 293) rfl rfl (by decide) (by decide) rfl (by decide) (law_c5 L scr i M hsc hi g hgo)
      by_cases w6 : w = 6
      · subst w6
        exact R_tblIn (q := 148) (off := 314) (tgt := 346) rfl rfl (by decide) (by decide) rfl (by decide) (law_c6 L scr i M hsc hi g hgo)
      by_cases w7 : w = 7
      · subst w7
        exact R_tblIn (q := 148) (off := 337) (tgt := 369) rfl rfl (by decide) (by decide) rfl (by decide) (law_c7 L scr i M hsc hi g hgo)
      by_cases w8 : w = 8
      · subst w8
        exact R_tblIn (q := 148) (off := 360) (tgt := 392) rfl rfl (by decide) (by decide) rfl (by decide) (law_c8 L scr i M hsc hi g hgo)
      by_cases w9 : w = 9
      · subst w9
        exact R_tblIn (q := 148) (off := 393) (tgt := 425) rfl rfl (by decide) (by decide) rfl (by decide) (law_c9 L scr i M hsc hi g hgo)
      by_cases w10 : w = 10
      · subst w10
        exact R_tblIn (q := 148) (off := 436) (tgt := 468) rfl rfl (by decide) (by decide) rfl (by decide) (law_c10 L scr i M hsc hi g hgo)
      by_cases w11 : w = 11
      · subst w11
        exact R_tblIn (q := 148) (off := 469) (tgt := 501) rfl rfl (by decide) (by decide) rfl (by decide) (law_c11 L scr i M hsc hi g hgo)
      by_cases w12 : w = 12
      · subst w12
        exact R_tblIn (q := 148) (off := 502) (tgt := 534) rfl rfl (by decide) (by decide) rfl (by decide) (law_c12 L scr i M hsc hi g hgo)
      by_cases w13 : w = 13
      · subst w13
        exact R_tblIn (q := 148) (off := 525) (tgt := 557) rfl rfl (by decide) (by decide) rfl (by decide) (law_c13 L scr i M hsc hi g hgo)
      by_cases w14 : w = 14
      · subst w14
        exact R_tblIn (q := 148) (off := 548) (tgt := 580) rfl rfl (by decide) (by decide) rfl (by decide) (law_c14 L scr i M hsc hi g hgo)
      by_cases w15 : w = 15
      · subst w15
        exact R_tblIn (q := 148) (off := 571) (tgt := 603) rfl rfl (by decide) (by decide) rfl (by decide) (law_c15 L scr i M hsc hi g hgo)
      by_cases w16 : w = 16
      · subst w16
        exact R_tblIn (q := 148) (off := 584) (tgt := 616) rfl rfl (by decide) (by decide) rfl (by decide) (law_c16 L scr i M hsc hi g hgo)
      by_cases w17 : w = 17
      · subst w17
        exact R_tblIn (q := 148) (off := 617) (tgt := 649) rfl rfl (by decide) (by decide) rfl (by decide) (law_c17 L scr i M hsc hi g hgo)
      by_cases w18 : w = 18
      · subst w18
        exact R_tblIn (q := 148) (off := 630) (tgt := 662) rfl rfl (by decide) (by decide) rfl (by decide) (law_c18 L scr i M hsc hi g hgo)
      by_cases w19 : w = 19
      · subst w19
        exact R_tblIn (q := 148) (off := 643) (tgt := 675) rfl rfl (by decide) (by decide) rfl (by decide) (law_c19 L scr i M hsc hi g hgo)
      by_cases w20 : w = 20
      · subst w20
        exact R_tblIn (q := 148) (off := 696) (tgt := 728) rfl rfl (by decide) (by decide) rfl (by decide) (law_c20 L scr i M hsc hi g hgo)
      by_cases w21 : w = 21
      · subst w21
        exact R_tblIn (q := 148) (off := 709) (tgt := 741) rfl rfl (by decide) (by decide) rfl (by decide) (law_c21 L scr i M hsc hi g hgo)
      by_cases w22 : w = 22
      · subst w22
        exact R_tblIn (q := 148) (off := 722) (tgt := 754) rfl rfl (by decide) (by decide) rfl (by decide) (law_c22 L scr i M hsc hi g hgo)
      by_cases w23 : w = 23
      · subst w23
        exact R_tblIn (q := 148) (off := 735) (tgt := 767) rfl rfl (by decide) (by decide) rfl (by decide) (law_c23 L scr i M hsc hi g hgo)
      by_cases w24 : w = 24
      · subst w24
        exact R_tblIn (q := 148) (off := 758) (tgt := 790) rfl rfl (by decide) (by decide) rfl (by decide) (law_c24 L scr i M hsc hi g hgo)
      exact R_tblOut (q := 148) (tgt := 813) rfl rfl hin (by omega) (by decide) (hgo M g)
