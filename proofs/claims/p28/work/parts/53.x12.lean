/-- the class's pad, with k characters of n more -/
def PtC (M N : Mem) (ch n k : Int) : Prop := N 8 1 = M 8 1 + k ∧ (∀ i, 0 ≤ i → i < M 8 1 + k → N 9 i = if i < M 8 1 then M 9 i else chb ch (n - 1 - (i - M 8 1))) ∧ ∀ r, r ≠ 8 → r ≠ 9 → N r = M r
theorem PtC.s {M N : Mem} {ch n k : Int} (h : PtC M N ch n k) (h0 : 0 ≤ k) (h8 : 0 ≤ M 8 1) : PtC M (upM (upM N 9 (N 8 1) (chb ch (n - 1 - k))) 8 1 (N 8 1 + 1)) ch n (k + 1) := by
  obtain ⟨a, b, c⟩ := h
  refine ⟨by rw [upM_s, a]; omega, fun i i0 i1 => ?_, fun r r0 r1 => by rw [upM_r r0, upM_r r1, c r r0 r1]⟩
  rw [upM_r (by omega)]
  by_cases e : i = N 8 1
  · rw [e, upM_s, if_neg (by omega)]
    congr 1
    omega
  · rw [upM_k e]
    exact b i i0 (by omega)
abbrev C_X6_put : Ct := (2, true, fun as M => ∃ (o : Nat) (ch : Int), as = [wR o, wL ch] ∧ (o = 3 ∧ GI M ∧ inl64 ch), fun as M x M' => ∀ (o : Nat) (ch : Int), as = [wR o, wL ch] → (Bo C_X7_put [wR 11, wL ch] M M' x))
def sx_X6_put : Sx := (tb_X6_put, fdX6, kLX6, kIX6, sgX6, ntX6, [(41, (9, C_X6_isWithin)), (220, (2, C_X2_append))], 1)
set_option maxRecDepth 100000 in
set_option maxHeartbeats 1000000 in
theorem ok_X6_put (L : Nat) (scr : Int → Int) (o : Nat) (ch : Int) (M : Mem) (hp : o = 3 ∧ GI M ∧ inl64 ch) : Runs sx_X6_put L (xcF scr) (fun x M' => Bo C_X7_put [wR 11, wL ch] M M' x) 0 [wR o, wL ch, none, none, none, none, none] [] M := by
  obtain ⟨rfl, g, h1⟩ := hp
  have pd := g.2.2.2.2.2
  have p60 := pd.1
  have e8 : M 8 1 = M 11 4 := g.1.2.2.2.2.2.1
  have nb := chn_bd 8 0 ch (by omega)
  obtain ⟨n, hn⟩ : ∃ n, n = chn 8 0 ch := ⟨_, rfl⟩
  rw [← hn] at nb
  have bad : n = 0 → Bo C_X7_put [wR 11, wL ch] M M (-2) := fun z => Bo_sm g SmC.rf (fun y N q => by
    rcases q 11 ch rfl with ⟨_, rfl, rfl⟩ | ⟨w, _⟩ | ⟨w, _⟩
    · exact ⟨rfl, SmR.rf⟩
    · omega
    · omega)
  have L3 : ∀ (m : Nat) (k : Int) (N : Mem) (l : Int), 0 ≤ k → k + m = n → n ≠ 0 → M 11 4 + n ≤ 60 → PtC M N ch n k → Runs sx_X6_put L (xcF scr) (fun x M' => Bo C_X7_put [wR 11, wL ch] M M' x) 91 [wR 3, wL ch, none, wI n, wL l, none, wI (n - 1 - k)] [] N := by
    intro m
    induction m with
    | zero =>
      intro k N l h0 hk hz h60 hP
      have hk : k = n := by omega
      subst hk
      obtain ⟨a, b, c⟩ := hP
      refine R_iload (q := 93) rfl rfl rfl ?_
      refine R_if_lt (q := 96) (tgt := 122) rfl rfl (by decide) (by omega) (fun h93 => ?_) (fun h93 => ?_)
      · refine R_aload_n (q := 123) (i := 0) rfl rfl rfl rfl ?_
        refine R_getR (q := 126) rfl rfl rfl rfl rfl (by omega) ?_
        refine R_getI (q := 129) (k1 := 1) rfl rfl rfl rfl rfl (by omega) rfl ?_
        refine R_ret rfl (Or.inl rfl) ?_
        refine ⟨fun r x y => c r (by omega) (by omega), fun y N2 q => ?_⟩
        have c11 := c 11 (by omega) (by omega)
        have c14 := c 14 (by omega) (by omega)
        rcases q 11 ch rfl with ⟨w, _⟩ | ⟨_, w, _⟩ | ⟨_, _, z1, z2⟩
        · omega
        · rw [c11] at w
          omega
        · rw [← hn, c11] at z1 z2
          refine ⟨by rw [a, e8, z1], ?_⟩
          have q11 : ∀ j, ptP N ch k k 11 j = M 11 j := fun j => by rw [ptP_r (by omega), c11]
          have q14 : ∀ i, N2 14 i = if M 11 4 ≤ i ∧ i < M 11 4 + k then chb ch (k - 1 - (i - M 11 4)) else M 14 i := fun i => by
            rw [z2, upM_r (by omega)]
            unfold ptP
            rw [c11, c14]
            by_cases w : M 11 4 ≤ i ∧ i < M 11 4 + k
            · rw [if_pos ⟨rfl, w⟩, if_pos w]
            · rw [if_neg (fun v => w v.2), if_neg w]
          refine G_len (M' := N) (v := M 11 4 + k) g (fun r _ x1 x2 => c r x1 x2) (by rw [a, e8]) (fun r x1 x2 => by rw [z2, upM_r x1, ptP_r x2]) (by rw [z2, upM_k (by omega), q11]) (by rw [z2, upM_s]) (by omega) (fun i i0 i1 => ?_) (fun i i0 i1 => ?_)
          · rw [q14, z2, upM_r (by omega), ptP_r (by omega), b i i0 (by omega), e8]
            by_cases w : i < M 11 4
            · rw [if_pos w, if_neg (by omega)]
              exact g.cs i i0 w
            · rw [if_neg w, if_pos (by omega)]
          · rw [q14]
            have xb := xland_bd (xlushr ch (8 * (k - 1 - (i - M 11 4))))
            split
            · exact xb
            · exact pd.2 i i0 i1
      · omega
    | succ m ih =>
      intro k N l h0 hk hz h60 hP
      have a := hP.1
      have xb := xland_bd (xlushr ch (8 * (n - 1 - k)))
      refine R_iload (q := 93) rfl rfl rfl ?_
      refine R_if_lt (q := 96) (tgt := 122) rfl rfl (by decide) (by omega) (fun h93 => ?_) (fun h93 => ?_)
      · omega
      · refine R_aload_n (q := 97) (i := 0) rfl rfl rfl rfl ?_
        refine R_getR (q := 100) rfl rfl rfl rfl rfl (by omega) ?_
        refine R_lload_n (q := 101) (i := 1) rfl rfl rfl rfl ?_
        refine R_bipush (q := 103) rfl rfl (by decide) ?_
        refine R_iload (q := 105) rfl rfl rfl ?_
        refine R_imul (q := 106) rfl rfl ?_
        refine R_lushr (q := 107) rfl rfl ?_
        refine R_ldc2 (q := 110) rfl rfl rfl ?_
        refine R_land (q := 111) rfl rfl ?_
        refine R_l2i (q := 112) rfl rfl (by omega) ?_
        refine R_i2c (q := 113) rfl rfl (by omega) ?_
        refine R_cV1N (q := 116) (ci := 2) (C := C_X2_append) rfl rfl rfl rfl rfl ⟨_, _, rfl, ⟨rfl, by omega, by omega⟩⟩ rfl rfl (by omega) (fun M' hc => ?_)
        replace hc := hc _ _ rfl
        subst hc
        have hP2 := hP.s h0 (by omega)
        refine R_iinc (q := 119) rfl rfl rfl rfl ?_
        refine R_goto (q := 122) (tgt := 91) rfl rfl (by decide) ?_
        rw [show n - 1 - k + -1 = n - 1 - (k + 1) by omega]
        exact ih (k + 1) _ l (by omega) (by omega) hz h60 hP2
  have L2 : ∀ (k l : Int), 0 ≤ k → k ≤ 8 → inl64 l → (if l = 0 then k else 0) = n → Runs sx_X6_put L (xcF scr) (fun x M' => Bo C_X7_put [wR 11, wL ch] M M' x) 55 [wR 3, wL ch, none, wI k, wL l, none, none] [] M := by
    intro k l h0 h8 hl e
    by_cases k0 : k = 0
    · have n0 : n = 0 := by
        rw [← e]
        split <;> omega
      refine R_iload_n (q := 56) (i := 3) rfl rfl rfl rfl ?_
      refine R_if_eq (q := 59) (tgt := 66) rfl rfl (by decide) (by omega) (fun h56 => ?_) (fun h56 => ?_)
      · refine R_bipush (q := 68) rfl rfl (by decide) ?_
        refine R_ret rfl (Or.inl rfl) ?_
        exact bad n0
      · omega
    · by_cases l0 : l = 0
      · rw [if_pos l0] at e
        subst l0
        subst e
        by_cases h60 : 60 < M 11 4 + k
        · refine R_iload_n (q := 56) (i := 3) rfl rfl rfl rfl ?_
          refine R_if_eq (q := 59) (tgt := 66) rfl rfl (by decide) (by omega) (fun h56 => ?_) (fun h56 => ?_)
          · omega
          · refine R_lload (q := 61) rfl rfl rfl ?_
            refine R_lconst (q := 62) (v := 0) rfl rfl rfl ?_
            refine R_lcmp (q := 63) rfl rfl (by omega) (by omega) ?_
            refine R_if_eq (q := 66) (tgt := 69) rfl rfl (by decide) (by omega) (fun h63 => ?_) (fun h63 => ?_)
            · refine R_aload_n (q := 70) (i := 0) rfl rfl rfl rfl ?_
              refine R_getR (q := 73) rfl rfl rfl rfl rfl (by omega) ?_
              refine R_getI (q := 76) (k1 := 1) rfl rfl rfl rfl rfl (by omega) rfl ?_
              refine R_iload_n (q := 77) (i := 3) rfl rfl rfl rfl ?_
              refine R_iadd (q := 78) rfl rfl ?_
              refine R_bipush (q := 80) rfl rfl (by decide) ?_
              refine R_icmp_le (q := 83) (tgt := 86) rfl rfl (by decide) (by omega) (by omega) (fun h80 => ?_) (fun h80 => ?_)
              · omega
              · refine R_bipush (q := 85) rfl rfl (by decide) ?_
                refine R_ret rfl (Or.inl rfl) ?_
                refine Bo_sm g SmC.rf (fun y N q => ?_)
                rcases q 11 ch rfl with ⟨w, _⟩ | ⟨_, _, rfl, rfl⟩ | ⟨_, w, _⟩
                · omega
                · exact ⟨rfl, SmR.rf⟩
                · omega
            · omega
        · refine R_iload_n (q := 56) (i := 3) rfl rfl rfl rfl ?_
          refine R_if_eq (q := 59) (tgt := 66) rfl rfl (by decide) (by omega) (fun h56 => ?_) (fun h56 => ?_)
          · omega
          · refine R_lload (q := 61) rfl rfl rfl ?_
            refine R_lconst (q := 62) (v := 0) rfl rfl rfl ?_
            refine R_lcmp (q := 63) rfl rfl (by omega) (by omega) ?_
            refine R_if_eq (q := 66) (tgt := 69) rfl rfl (by decide) (by omega) (fun h63 => ?_) (fun h63 => ?_)
            · refine R_aload_n (q := 70) (i := 0) rfl rfl rfl rfl ?_
              refine R_getR (q := 73) rfl rfl rfl rfl rfl (by omega) ?_
              refine R_getI (q := 76) (k1 := 1) rfl rfl rfl rfl rfl (by omega) rfl ?_
              refine R_iload_n (q := 77) (i := 3) rfl rfl rfl rfl ?_
              refine R_iadd (q := 78) rfl rfl ?_
              refine R_bipush (q := 80) rfl rfl (by decide) ?_
              refine R_icmp_le (q := 83) (tgt := 86) rfl rfl (by decide) (by omega) (by omega) (fun h80 => ?_) (fun h80 => ?_)
              · refine R_iload_n (q := 87) (i := 3) rfl rfl rfl rfl ?_
                refine R_iconst (q := 88) rfl rfl ?_
                refine R_isub (q := 89) rfl rfl ?_
                refine R_istore (q := 91) rfl rfl rfl ?_
                have := L3 k.toNat 0 M 0 (by omega) (by omega) k0 (by omega) ⟨by omega, fun i i0 i1 => (if_pos (by omega)).symm, fun r _ _ => rfl⟩
                rw [Int.sub_zero] at this
                exact this
              · omega
            · omega
      · rw [if_neg l0] at e
        have hlt : (if (0 : Int) < l then (1 : Int) else if l = 0 then 0 else -1) ≠ 0 := by
          split
          · omega
          · omega
        refine R_iload_n (q := 56) (i := 3) rfl rfl rfl rfl ?_
        refine R_if_eq (q := 59) (tgt := 66) rfl rfl (by decide) (by omega) (fun h56 => ?_) (fun h56 => ?_)
        · omega
        · refine R_lload (q := 61) rfl rfl rfl ?_
          refine R_lconst (q := 62) (v := 0) rfl rfl rfl ?_
          refine R_lcmp (q := 63) rfl rfl (by omega) (by omega) ?_
          refine R_if_eq (q := 66) (tgt := 69) rfl rfl (by decide) (by split <;> (try split) <;> omega) (fun h63 => ?_) (fun h63 => ?_)
          · exact absurd h63 (fun y => hlt y)
          · refine R_bipush (q := 68) rfl rfl (by decide) ?_
            refine R_ret rfl (Or.inl rfl) ?_
            exact bad e.symm
  have L1 : ∀ (m : Nat) (k l : Int), k + m = 8 → 0 ≤ k → inl64 l → chn m k l = n → Runs sx_X6_put L (xcF scr) (fun x M' => Bo C_X7_put [wR 11, wL ch] M M' x) 5 [wR 3, wL ch, none, wI k, wL l, none, none] [] M := by
    intro m
    induction m with
    | zero =>
      intro k l hk h0 hl e
      unfold chn at e
      refine R_iload_n (q := 6) (i := 3) rfl rfl rfl rfl ?_
      refine R_bipush (q := 8) rfl rfl (by decide) ?_
      refine R_icmp_ge (q := 11) (tgt := 55) rfl rfl (by decide) (by omega) (by omega) (fun h8 => ?_) (fun h8 => ?_)
      · exact L2 k l h0 (by omega) hl e
      · omega
    | succ m ih =>
      intro k l hk h0 hl e
      unfold chn at e
      have xb := xland_bd l
      have xb2 : inl64 (xland l 255) := ⟨by omega, by omega⟩
      by_cases b0 : xland l 255 = 0
      · rw [if_neg (by omega)] at e
        have hz : (if (0 : Int) < xland l 255 then (1 : Int) else if xland l 255 = 0 then 0 else -1) = 0 := by rw [if_neg (by omega), if_pos b0]
        refine R_iload_n (q := 6) (i := 3) rfl rfl rfl rfl ?_
        refine R_bipush (q := 8) rfl rfl (by decide) ?_
        refine R_icmp_ge (q := 11) (tgt := 55) rfl rfl (by decide) (by omega) (by omega) (fun h8 => ?_) (fun h8 => ?_)
        · omega
        · refine R_lload (q := 13) rfl rfl rfl ?_
          refine R_ldc2 (q := 16) rfl rfl rfl ?_
          refine R_land (q := 17) rfl rfl ?_
          refine R_lconst (q := 18) (v := 0) rfl rfl rfl ?_
          refine R_lcmp (q := 19) rfl rfl xb2 (by omega) ?_
          rw [hz]
          refine R_if_eq (q := 22) (tgt := 55) rfl rfl (by decide) (by omega) (fun h19 => ?_) (fun h19 => ?_)
          · exact L2 k l h0 (by omega) hl e
          · omega
      · have hz : (if (0 : Int) < xland l 255 then (1 : Int) else if xland l 255 = 0 then 0 else -1) = 1 := if_pos (by omega)
        by_cases y : 33 ≤ xland l 255 ∧ xland l 255 ≤ 126
        · rw [if_pos y] at e
          refine R_iload_n (q := 6) (i := 3) rfl rfl rfl rfl ?_
          refine R_bipush (q := 8) rfl rfl (by decide) ?_
          refine R_icmp_ge (q := 11) (tgt := 55) rfl rfl (by decide) (by omega) (by omega) (fun h8 => ?_) (fun h8 => ?_)
          · omega
          · refine R_lload (q := 13) rfl rfl rfl ?_
            refine R_ldc2 (q := 16) rfl rfl rfl ?_
            refine R_land (q := 17) rfl rfl ?_
            refine R_lconst (q := 18) (v := 0) rfl rfl rfl ?_
            refine R_lcmp (q := 19) rfl rfl xb2 (by omega) ?_
            rw [hz]
            refine R_if_eq (q := 22) (tgt := 55) rfl rfl (by decide) (by omega) (fun h19 => ?_) (fun h19 => ?_)
            · omega
            · refine R_lload (q := 24) rfl rfl rfl ?_
              refine R_ldc2 (q := 27) rfl rfl rfl ?_
              refine R_land (q := 28) rfl rfl ?_
              refine R_l2i (q := 29) rfl rfl (by omega) ?_
              refine R_bipush (q := 31) rfl rfl (by decide) ?_
              refine R_bipush (q := 33) rfl rfl (by decide) ?_
              refine R_cS3I (q := 36) (ci := 9) (C := C_X6_isWithin) rfl rfl rfl rfl rfl ⟨_, _, _, rfl, (by first | trivial | assumption | omega)⟩ rfl rfl (fun x M' hc => ?_)
              replace hc := hc _ _ _ rfl
              obtain ⟨w33, rfl⟩ := hc
              refine R_if_ne (q := 39) (tgt := 42) rfl rfl (by decide) (by omega) (fun h36 => ?_) (fun h36 => ?_)
              · refine R_lload (q := 44) rfl rfl rfl ?_
                refine R_bipush (q := 46) rfl rfl (by decide) ?_
                refine R_lushr (q := 47) rfl rfl ?_
                refine R_lstore (q := 49) rfl rfl rfl rfl ?_
                refine R_iinc (q := 52) rfl rfl rfl rfl ?_
                refine R_goto (q := 55) (tgt := 5) rfl rfl (by decide) ?_
                exact ih (k + 1) (xlushr l 8) (by omega) (by omega) (xlushr_in _ _) e
              · omega
        · rw [if_neg y] at e
          have l0 : l ≠ 0 := fun z => b0 (by rw [z]; exact xland_0)
          rw [if_neg l0] at e
          refine R_iload_n (q := 6) (i := 3) rfl rfl rfl rfl ?_
          refine R_bipush (q := 8) rfl rfl (by decide) ?_
          refine R_icmp_ge (q := 11) (tgt := 55) rfl rfl (by decide) (by omega) (by omega) (fun h8 => ?_) (fun h8 => ?_)
          · omega
          · refine R_lload (q := 13) rfl rfl rfl ?_
            refine R_ldc2 (q := 16) rfl rfl rfl ?_
            refine R_land (q := 17) rfl rfl ?_
            refine R_lconst (q := 18) (v := 0) rfl rfl rfl ?_
            refine R_lcmp (q := 19) rfl rfl xb2 (by omega) ?_
            rw [hz]
            refine R_if_eq (q := 22) (tgt := 55) rfl rfl (by decide) (by omega) (fun h19 => ?_) (fun h19 => ?_)
            · omega
            · refine R_lload (q := 24) rfl rfl rfl ?_
              refine R_ldc2 (q := 27) rfl rfl rfl ?_
              refine R_land (q := 28) rfl rfl ?_
              refine R_l2i (q := 29) rfl rfl (by omega) ?_
              refine R_bipush (q := 31) rfl rfl (by decide) ?_
              refine R_bipush (q := 33) rfl rfl (by decide) ?_
              refine R_cS3I (q := 36) (ci := 9) (C := C_X6_isWithin) rfl rfl rfl rfl rfl ⟨_, _, _, rfl, (by first | trivial | assumption | omega)⟩ rfl rfl (fun x M' hc => ?_)
              replace hc := hc _ _ _ rfl
              obtain ⟨w33, rfl⟩ := hc
              refine R_if_ne (q := 39) (tgt := 42) rfl rfl (by decide) (by omega) (fun h36 => ?_) (fun h36 => ?_)
              · omega
              · refine R_bipush (q := 41) rfl rfl (by decide) ?_
                refine R_ret rfl (Or.inl rfl) ?_
                exact bad e.symm
  refine R_iconst (q := 1) rfl rfl ?_
  refine R_istore_n (q := 2) (i := 3) rfl rfl rfl rfl ?_
  refine R_lload_n (q := 3) (i := 1) rfl rfl rfl rfl ?_
  refine R_lstore (q := 5) rfl rfl rfl rfl ?_
  exact L1 8 0 ch (by omega) (by omega) h1 hn.symm
set_option maxRecDepth 100000 in
theorem mt_X6_put : MtOK yX6_put cX6_put 7 (some .int) 1 C_X6_put := by
  refine mt_of sx_X6_put (by decide +kernel) (Or.inl ⟨rfl, rfl, rfl⟩) (by decide +kernel) fdX6_ok kLX6_ok kIX6_ok sgX6_ok ntX6_ok
    (all_cons (clokS mt_X6_isWithin (GT_at 282 (by decide +kernel) (by decide +kernel)) (GT_at 11 (by decide +kernel) (by decide +kernel)) (GT_at 284 (by decide +kernel) (by decide +kernel)) (by decide +kernel) (by decide) (GT_at 283 (by decide +kernel) (by decide +kernel))) (all_cons (clokV mt_X2_append rfl (GT_at 326 (by decide +kernel) (by decide +kernel)) (GT_at 16 (by decide +kernel) (by decide +kernel)) (GT_at 329 (by decide +kernel) (by decide +kernel)) (by decide +kernel) (by decide) (GT_at 327 (by decide +kernel) (by decide +kernel)) (GT_at 328 (by decide +kernel) (by decide +kernel)) rfl rfl) (all_nil))) ?_ ?_
  · rintro as M - ⟨o, ch, rfl, hp⟩
    exact Nat.le_of_ble_eq_true rfl
  · rintro L scr as M - ⟨o, ch, rfl, hp⟩
    exact Runs.mono (fun x M' h _ _ e => by cases e; exact h) (ok_X6_put L scr o ch M hp)
