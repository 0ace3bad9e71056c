theorem mul_bd {a b A B : Int} (h1 : 0 ≤ a ∧ a ≤ A) (h2 : 0 ≤ b ∧ b ≤ B) : 0 ≤ a * b ∧ a * b ≤ A * B := ⟨Int.mul_nonneg h1.1 h2.1, Int.mul_le_mul h1.2 h2.2 h2.1 (Int.le_trans h1.1 h1.2)⟩
theorem dw_bd {f : Int → Int} (h : Bd f) {t k : Int} (ht : 0 ≤ t ∧ t < 64) (hk : 0 ≤ k ∧ k < 6) : 0 ≤ dw f t k ∧ dw f t k ≤ 81 := by
  obtain ⟨c0, c1, c2, c3⟩ := h.2.2.2 t ht.1 ht.2
  have a := ds_01 f t k
  have b := df_bd (f := f) (t := t) (k := k) c1.1 c2.1
  have c := h.2.1 k hk.1 hk.2
  exact mul_bd (A := 9) (B := 9) (by have := mul_bd a b; omega) ⟨by omega, c.2⟩
theorem dbt_bd {f : Int → Int} (h : Bd f) {t : Int} (ht : 0 ≤ t ∧ t < 64) : 0 ≤ dbt f t ∧ dbt f t ≤ 500 := by
  obtain ⟨c0, c1, c2, c3⟩ := h.2.2.2 t ht.1 ht.2
  have a := h.2.2.1 _ c0.1 c0.2
  have w0 := dw_bd h ht (k := 0) (by omega)
  have w1 := dw_bd h ht (k := 1) (by omega)
  have w2 := dw_bd h ht (k := 2) (by omega)
  have w3 := dw_bd h ht (k := 3) (by omega)
  have w4 := dw_bd h ht (k := 4) (by omega)
  have w5 := dw_bd h ht (k := 5) (by omega)
  unfold dbt
  split <;> omega
theorem Bd_keep {f g : Int → Int} (h : Bd f) (h1 : ∀ j, 0 ≤ j → j < 6 → g j = f j) (h2 : ∀ j, 15 ≤ j → j < 26 → g j = f j) (h3 : ∀ t, 0 ≤ t → t < 64 → g (86 + 9 * t) = f (86 + 9 * t) ∧ g (87 + 9 * t) = f (87 + 9 * t) ∧ g (88 + 9 * t) = f (88 + 9 * t) ∧ g (89 + 9 * t) = f (89 + 9 * t)) : Bd g := by
  obtain ⟨a, b, c, d⟩ := h
  refine ⟨?_, fun k k0 k1 => ?_, fun k k0 k1 => ?_, fun t t0 t1 => ?_⟩
  · rw [h1 0 (by omega) (by omega), h1 1 (by omega) (by omega), h1 2 (by omega) (by omega), h1 3 (by omega) (by omega), h1 4 (by omega) (by omega), h1 5 (by omega) (by omega)]
    exact a
  · rw [h2 _ (by omega) (by omega)]
    exact b k k0 k1
  · rw [h2 _ (by omega) (by omega)]
    exact c k k0 k1
  · obtain ⟨e0, e1, e2, e3⟩ := h3 t t0 t1
    rw [e0, e1, e2, e3]
    exact d t t0 t1
theorem rmv_o {f : Int → Int} {d p j : Int} (hd : 0 ≤ d ∧ d < 3) (hp : 0 ≤ p) (hm : f (27 + 4 * d) ≤ 16) (h1 : j ≠ 27 + 4 * d) (h2 : j < 38 ∨ 86 ≤ j) : rmv f d p j = f j := by
  unfold rmv
  rw [if_neg h1, if_neg (by omega)]
theorem lkd_o {f : Int → Int} {d j : Int} (h : j ≠ 28 + 4 * d) : lkd f d j = f j := us_n h
theorem rl_o {f : Int → Int} {d j : Int} (hd : 0 ≤ d ∧ d < 3) (hm : f (27 + 4 * d) ≤ 16) (h1 : j ≠ 27 + 4 * d) (h2 : j ≠ 28 + 4 * d) (h3 : j < 38 ∨ 86 ≤ j) : rmv (lkd f d) d 0 j = f j := by
  rw [rmv_o hd (by omega) (by rw [lkd_o (by omega)]; exact hm) h1 h3, lkd_o h2]
theorem rl_Bd {f : Int → Int} {d : Int} (hd : 0 ≤ d ∧ d < 3) (hm : f (27 + 4 * d) ≤ 16) (h : Bd f) : Bd (rmv (lkd f d) d 0) :=
  Bd_keep h (fun j _ _ => rl_o hd hm (by omega) (by omega) (by omega)) (fun j _ _ => rl_o hd hm (by omega) (by omega) (by omega))
    (fun t _ _ => ⟨rl_o hd hm (by omega) (by omega) (by omega), rl_o hd hm (by omega) (by omega) (by omega), rl_o hd hm (by omega) (by omega) (by omega), rl_o hd hm (by omega) (by omega) (by omega)⟩)
abbrev C_X7_looks : Ct := (4, true, fun as M => ∃ (o : Nat) (b : Int) (d : Int) (o0 : Int), as = [wR o, wI b, wI d, wI o0] ∧ (o = 11 ∧ (0 ≤ b ∧ b ≤ 4634) ∧ (0 ≤ d ∧ d < 3) ∧ Bd (sh b (M 12)) ∧ (1 ≤ (sh b (M 12)) (27 + 4 * d) ∧ (sh b (M 12)) (27 + 4 * d) ≤ 16) ∧ (0 ≤ (sh b (M 12)) (38 + 16 * d) ∧ (sh b (M 12)) (38 + 16 * d) < 64) ∧ (d < 2 → 0 ≤ (sh b (M 12)) (31 + 4 * d) ∧ (sh b (M 12)) (31 + 4 * d) < 16) ∧ (sh b (M 12)) (93 + 9 * (sh b (M 12)) (38 + 16 * d)) = 0 ∧ (0 ≤ (sh b (M 12)) 9 ∧ (sh b (M 12)) 9 ≤ 64) ∧ 0 ≤ o0 ∧ o0 ≤ 64), fun as M x M' => ∀ (o : Nat) (b : Int) (d : Int) (o0 : Int), as = [wR o, wI b, wI d, wI o0] → (if lkS (sh b (M 12)) d o0 then 0 = x ∧ mr b M (lkd (sh b (M 12)) d) = M' else 1 = x ∧ mr b M (lkg (sh b (M 12)) d) = M'))
def sx_X7_looks : Sx := (tb_X7_looks, fdX7, kLX7, kIX7, sgX7, ntX7, [(56, (9, C_X7_queueAt)), (66, (7, C_X7_doubt)), (53, (7, C_X7_disagreeing)), (20, (9, C_X7_deskAt)), (69, (7, C_X7_removes)), (63, (7, C_X7_passes)), (59, (7, C_X7_takes)), (73, (7, C_X7_opens)), (76, (7, C_X7_joins)), (39, (9, C_X7_trunkAt))], 2)
set_option maxRecDepth 100000 in
set_option maxHeartbeats 1000000 in
theorem ok_X7_looks (L : Nat) (scr : Int → Int) (o : Nat) (b : Int) (d : Int) (o0 : Int) (M : Mem) (hp : o = 11 ∧ (0 ≤ b ∧ b ≤ 4634) ∧ (0 ≤ d ∧ d < 3) ∧ Bd (sh b (M 12)) ∧ (1 ≤ (sh b (M 12)) (27 + 4 * d) ∧ (sh b (M 12)) (27 + 4 * d) ≤ 16) ∧ (0 ≤ (sh b (M 12)) (38 + 16 * d) ∧ (sh b (M 12)) (38 + 16 * d) < 64) ∧ (d < 2 → 0 ≤ (sh b (M 12)) (31 + 4 * d) ∧ (sh b (M 12)) (31 + 4 * d) < 16) ∧ (sh b (M 12)) (93 + 9 * (sh b (M 12)) (38 + 16 * d)) = 0 ∧ (0 ≤ (sh b (M 12)) 9 ∧ (sh b (M 12)) 9 ≤ 64) ∧ 0 ≤ o0 ∧ o0 ≤ 64) : Runs sx_X7_looks L (xcF scr) (fun x M' => if lkS (sh b (M 12)) d o0 then 0 = x ∧ mr b M (lkd (sh b (M 12)) d) = M' else 1 = x ∧ mr b M (lkg (sh b (M 12)) d) = M') 0 [wR o, wI b, wI d, wI o0, none, none, none, none] [] M := by
  obtain ⟨rfl, h1, h2, h3, h4, h5, h6, h7, h8, h9⟩ := hp
  obtain ⟨q, hq⟩ : ∃ q, q = (sh b (M 12)) (38 + 16 * d) := ⟨_, rfl⟩
  rw [← hq] at h5 h7
  have s0 := h3.1.1
  have s5 := h3.1.2.2.2.2.2
  have hdb := dbt_bd h3 h5
  have hmb := msk_bd (sh b (M 12)) q
  have hR : 0 ≤ (sh b (M 12)) 0 * (d + 1) ∧ (sh b (M 12)) 0 * (d + 1) ≤ 200 * 3 := mul_bd s0 (by omega)
  have rm : (27 + 4 * d ≠ 28 + 4 * d) := by omega
  by_cases hm : msk (sh b (M 12)) q = 0
  · have fin : ¬ lkS (sh b (M 12)) d o0 := fun z => z.1 (by rw [← hq]; exact hm)
    have eg : lkg (sh b (M 12)) d = pss (rmv (lkd (sh b (M 12)) d) d 0) d q 1 := by
      unfold lkg
      rw [← hq, if_pos hm]
    refine R_aload_n (q := 1) (i := 0) rfl rfl rfl rfl ?_
    refine R_getR (q := 4) rfl rfl rfl rfl rfl (by omega) ?_
    refine R_iload_n (q := 5) (i := 1) rfl rfl rfl rfl ?_
    refine R_iload_n (q := 6) (i := 2) rfl rfl rfl rfl ?_
    refine R_iconst (q := 7) rfl rfl ?_
    refine R_cS3I (q := 10) (ci := 9) (C := C_X7_queueAt) rfl rfl rfl rfl rfl ⟨_, _, _, rfl, (by first | trivial | assumption | omega)⟩ rfl rfl (fun x M' hc => ?_)
    replace hc := hc _ _ _ rfl
    try simp only [sh_mr, mr_mr] at hc
    obtain ⟨rfl, rfl⟩ := hc
    refine R_iald (q := 11) (v := q) rfl rfl rfl (by omega) (by omega) (Eq.trans (rd12 (by omega)) hq.symm) ?_
    refine R_istore (q := 13) rfl rfl rfl ?_
    refine R_aload_n (q := 14) (i := 0) rfl rfl rfl rfl ?_
    refine R_iload_n (q := 15) (i := 1) rfl rfl rfl rfl ?_
    refine R_iload (q := 17) rfl rfl rfl ?_
    refine R_cV2I (q := 20) (ci := 7) (C := C_X7_doubt) rfl rfl rfl rfl rfl ⟨_, _, _, rfl, ⟨rfl, h1, h5, h3⟩⟩ rfl rfl (by omega) (fun x M' hc => ?_)
    replace hc := hc _ _ _ rfl
    try simp only [sh_mr, mr_mr] at hc
    obtain ⟨rfl, rfl⟩ := hc
    refine R_istore (q := 22) rfl rfl rfl ?_
    refine R_aload_n (q := 23) (i := 0) rfl rfl rfl rfl ?_
    refine R_iload_n (q := 24) (i := 1) rfl rfl rfl rfl ?_
    refine R_iload (q := 26) rfl rfl rfl ?_
    refine R_cV2I (q := 29) (ci := 7) (C := C_X7_disagreeing) rfl rfl rfl rfl rfl ⟨_, _, _, rfl, ⟨rfl, h1, h5, h3⟩⟩ rfl rfl (by omega) (fun x M' hc => ?_)
    replace hc := hc _ _ _ rfl
    try simp only [sh_mr, mr_mr] at hc
    obtain ⟨rfl, rfl⟩ := hc
    refine R_if_ne (q := 32) (tgt := 36) rfl rfl (by decide) (by omega) (fun h29 => ?_) (fun h29 => ?_)
    · omega
    · refine R_iconst (q := 33) rfl rfl ?_
      refine R_goto (q := 36) (tgt := 37) rfl rfl (by decide) ?_
      refine R_istore (q := 39) rfl rfl rfl ?_
      refine R_iload_n (q := 40) (i := 2) rfl rfl rfl rfl ?_
      refine R_iconst (q := 41) rfl rfl ?_
      refine R_icmp_ne (q := 44) (tgt := 48) rfl rfl (by decide) (by omega) (by omega) (fun h41 => ?_) (fun h41 => ?_)
      · refine R_iconst (q := 49) rfl rfl ?_
        refine R_istore (q := 51) rfl rfl rfl ?_
        refine R_aload_n (q := 52) (i := 0) rfl rfl rfl rfl ?_
        refine R_getR (q := 55) rfl rfl rfl rfl rfl (by omega) ?_
        refine R_iload_n (q := 56) (i := 1) rfl rfl rfl rfl ?_
        refine R_iload_n (q := 57) (i := 2) rfl rfl rfl rfl ?_
        refine R_cS2I (q := 60) (ci := 9) (C := C_X7_deskAt) rfl rfl rfl rfl rfl ⟨_, _, rfl, (by first | trivial | assumption | omega)⟩ rfl rfl (fun x M' hc => ?_)
        replace hc := hc _ _ rfl
        try simp only [sh_mr, mr_mr] at hc
        obtain ⟨rfl, rfl⟩ := hc
        refine R_iconst (q := 61) rfl rfl ?_
        refine R_iadd (q := 62) rfl rfl ?_
        refine R_dup2 (q := 63) rfl rfl rfl rfl ?_
        refine R_iald (q := 64) (v := sh b (M 12) (28 + 4 * d)) rfl rfl rfl (by omega) (by omega) (by first | exact rd12 (by omega) | exact rdmr (by omega)) ?_
        refine R_iconst (q := 65) rfl rfl ?_
        refine R_iadd (q := 66) rfl rfl ?_
        refine R_iast (q := 67) (M2 := mr b M (lkd (sh b (M 12)) d)) rfl rfl rfl (by omega) (by omega) (by first | exact upmr (by omega) | exact up12 (by omega)) ?_
        refine R_iload (q := 69) rfl rfl rfl ?_
        refine R_if_ne (q := 72) (tgt := 101) rfl rfl (by decide) (by omega) (fun h69 => ?_) (fun h69 => ?_)
        · refine R_aload_n (q := 102) (i := 0) rfl rfl rfl rfl ?_
          refine R_iload_n (q := 103) (i := 1) rfl rfl rfl rfl ?_
          refine R_iload_n (q := 104) (i := 2) rfl rfl rfl rfl ?_
          refine R_iconst (q := 105) rfl rfl ?_
          refine R_cV3N (q := 108) (ci := 7) (C := C_X7_removes) rfl rfl rfl rfl rfl ⟨_, _, _, _, rfl, ⟨rfl, h1, h2, by simp only [sh_mr]; rw [lkd_o rm]; omega⟩⟩ rfl rfl (by omega) (fun M' hc => ?_)
          replace hc := hc _ _ _ _ rfl
          try simp only [sh_mr, mr_mr] at hc
          subst hc
          refine R_iload (q := 110) rfl rfl rfl ?_
          refine R_if_eq (q := 113) (tgt := 125) rfl rfl (by decide) (by omega) (fun h110 => ?_) (fun h110 => ?_)
          · omega
          · refine R_aload_n (q := 114) (i := 0) rfl rfl rfl rfl ?_
            refine R_iload_n (q := 115) (i := 1) rfl rfl rfl rfl ?_
            refine R_iload_n (q := 116) (i := 2) rfl rfl rfl rfl ?_
            refine R_iload (q := 118) rfl rfl rfl ?_
            refine R_iconst (q := 119) rfl rfl ?_
            refine R_cV4N (q := 122) (ci := 7) (C := C_X7_passes) rfl rfl rfl rfl rfl ⟨_, _, _, _, _, rfl, ⟨rfl, h1, h2, h5, Or.inl rfl⟩⟩ rfl rfl (by omega) (fun M' hc => ?_)
            replace hc := hc _ _ _ _ _ rfl
            try simp only [sh_mr, mr_mr] at hc
            subst hc
            refine R_goto (q := 125) (tgt := 219) rfl rfl (by decide) ?_
            refine R_iconst (q := 220) rfl rfl ?_
            refine R_ret rfl (Or.inr ⟨rfl, (by first | exact Or.inl rfl | exact Or.inr rfl | omega)⟩) ?_
            rw [if_neg fin, eg]
            exact ⟨rfl, rfl⟩
        · omega
      · refine R_iconst (q := 45) rfl rfl ?_
        refine R_goto (q := 48) (tgt := 49) rfl rfl (by decide) ?_
        refine R_istore (q := 51) rfl rfl rfl ?_
        refine R_aload_n (q := 52) (i := 0) rfl rfl rfl rfl ?_
        refine R_getR (q := 55) rfl rfl rfl rfl rfl (by omega) ?_
        refine R_iload_n (q := 56) (i := 1) rfl rfl rfl rfl ?_
        refine R_iload_n (q := 57) (i := 2) rfl rfl rfl rfl ?_
        refine R_cS2I (q := 60) (ci := 9) (C := C_X7_deskAt) rfl rfl rfl rfl rfl ⟨_, _, rfl, (by first | trivial | assumption | omega)⟩ rfl rfl (fun x M' hc => ?_)
        replace hc := hc _ _ rfl
        try simp only [sh_mr, mr_mr] at hc
        obtain ⟨rfl, rfl⟩ := hc
        refine R_iconst (q := 61) rfl rfl ?_
        refine R_iadd (q := 62) rfl rfl ?_
        refine R_dup2 (q := 63) rfl rfl rfl rfl ?_
        refine R_iald (q := 64) (v := sh b (M 12) (28 + 4 * d)) rfl rfl rfl (by omega) (by omega) (by first | exact rd12 (by omega) | exact rdmr (by omega)) ?_
        refine R_iconst (q := 65) rfl rfl ?_
        refine R_iadd (q := 66) rfl rfl ?_
        refine R_iast (q := 67) (M2 := mr b M (lkd (sh b (M 12)) d)) rfl rfl rfl (by omega) (by omega) (by first | exact upmr (by omega) | exact up12 (by omega)) ?_
        refine R_iload (q := 69) rfl rfl rfl ?_
        refine R_if_ne (q := 72) (tgt := 101) rfl rfl (by decide) (by omega) (fun h69 => ?_) (fun h69 => ?_)
        · refine R_aload_n (q := 102) (i := 0) rfl rfl rfl rfl ?_
          refine R_iload_n (q := 103) (i := 1) rfl rfl rfl rfl ?_
          refine R_iload_n (q := 104) (i := 2) rfl rfl rfl rfl ?_
          refine R_iconst (q := 105) rfl rfl ?_
          refine R_cV3N (q := 108) (ci := 7) (C := C_X7_removes) rfl rfl rfl rfl rfl ⟨_, _, _, _, rfl, ⟨rfl, h1, h2, by simp only [sh_mr]; rw [lkd_o rm]; omega⟩⟩ rfl rfl (by omega) (fun M' hc => ?_)
          replace hc := hc _ _ _ _ rfl
          try simp only [sh_mr, mr_mr] at hc
          subst hc
          refine R_iload (q := 110) rfl rfl rfl ?_
          refine R_if_eq (q := 113) (tgt := 125) rfl rfl (by decide) (by omega) (fun h110 => ?_) (fun h110 => ?_)
          · omega
          · refine R_aload_n (q := 114) (i := 0) rfl rfl rfl rfl ?_
            refine R_iload_n (q := 115) (i := 1) rfl rfl rfl rfl ?_
            refine R_iload_n (q := 116) (i := 2) rfl rfl rfl rfl ?_
            refine R_iload (q := 118) rfl rfl rfl ?_
            refine R_iconst (q := 119) rfl rfl ?_
            refine R_cV4N (q := 122) (ci := 7) (C := C_X7_passes) rfl rfl rfl rfl rfl ⟨_, _, _, _, _, rfl, ⟨rfl, h1, h2, h5, Or.inl rfl⟩⟩ rfl rfl (by omega) (fun M' hc => ?_)
            replace hc := hc _ _ _ _ _ rfl
            try simp only [sh_mr, mr_mr] at hc
            subst hc
            refine R_goto (q := 125) (tgt := 219) rfl rfl (by decide) ?_
            refine R_iconst (q := 220) rfl rfl ?_
            refine R_ret rfl (Or.inr ⟨rfl, (by first | exact Or.inl rfl | exact Or.inr rfl | omega)⟩) ?_
            rw [if_neg fin, eg]
            exact ⟨rfl, rfl⟩
        · omega
  · by_cases hd : d = 2
    · by_cases hs : (sh b (M 12)) 5 ≤ (sh b (M 12)) 9 - o0
      · have fin : lkS (sh b (M 12)) d o0 := ⟨by rw [← hq]; exact hm, hd, hs⟩
        refine R_aload_n (q := 1) (i := 0) rfl rfl rfl rfl ?_
        refine R_getR (q := 4) rfl rfl rfl rfl rfl (by omega) ?_
        refine R_iload_n (q := 5) (i := 1) rfl rfl rfl rfl ?_
        refine R_iload_n (q := 6) (i := 2) rfl rfl rfl rfl ?_
        refine R_iconst (q := 7) rfl rfl ?_
        refine R_cS3I (q := 10) (ci := 9) (C := C_X7_queueAt) rfl rfl rfl rfl rfl ⟨_, _, _, rfl, (by first | trivial | assumption | omega)⟩ rfl rfl (fun x M' hc => ?_)
        replace hc := hc _ _ _ rfl
        try simp only [sh_mr, mr_mr] at hc
        obtain ⟨rfl, rfl⟩ := hc
        refine R_iald (q := 11) (v := q) rfl rfl rfl (by omega) (by omega) (Eq.trans (rd12 (by omega)) hq.symm) ?_
        refine R_istore (q := 13) rfl rfl rfl ?_
        refine R_aload_n (q := 14) (i := 0) rfl rfl rfl rfl ?_
        refine R_iload_n (q := 15) (i := 1) rfl rfl rfl rfl ?_
        refine R_iload (q := 17) rfl rfl rfl ?_
        refine R_cV2I (q := 20) (ci := 7) (C := C_X7_doubt) rfl rfl rfl rfl rfl ⟨_, _, _, rfl, ⟨rfl, h1, h5, h3⟩⟩ rfl rfl (by omega) (fun x M' hc => ?_)
        replace hc := hc _ _ _ rfl
        try simp only [sh_mr, mr_mr] at hc
        obtain ⟨rfl, rfl⟩ := hc
        refine R_istore (q := 22) rfl rfl rfl ?_
        refine R_aload_n (q := 23) (i := 0) rfl rfl rfl rfl ?_
        refine R_iload_n (q := 24) (i := 1) rfl rfl rfl rfl ?_
        refine R_iload (q := 26) rfl rfl rfl ?_
        refine R_cV2I (q := 29) (ci := 7) (C := C_X7_disagreeing) rfl rfl rfl rfl rfl ⟨_, _, _, rfl, ⟨rfl, h1, h5, h3⟩⟩ rfl rfl (by omega) (fun x M' hc => ?_)
        replace hc := hc _ _ _ rfl
        try simp only [sh_mr, mr_mr] at hc
        obtain ⟨rfl, rfl⟩ := hc
        refine R_if_ne (q := 32) (tgt := 36) rfl rfl (by decide) (by omega) (fun h29 => ?_) (fun h29 => ?_)
        · refine R_iconst (q := 37) rfl rfl ?_
          refine R_istore (q := 39) rfl rfl rfl ?_
          refine R_iload_n (q := 40) (i := 2) rfl rfl rfl rfl ?_
          refine R_iconst (q := 41) rfl rfl ?_
          refine R_icmp_ne (q := 44) (tgt := 48) rfl rfl (by decide) (by omega) (by omega) (fun h41 => ?_) (fun h41 => ?_)
          · omega
          · refine R_iconst (q := 45) rfl rfl ?_
            refine R_goto (q := 48) (tgt := 49) rfl rfl (by decide) ?_
            refine R_istore (q := 51) rfl rfl rfl ?_
            refine R_aload_n (q := 52) (i := 0) rfl rfl rfl rfl ?_
            refine R_getR (q := 55) rfl rfl rfl rfl rfl (by omega) ?_
            refine R_iload_n (q := 56) (i := 1) rfl rfl rfl rfl ?_
            refine R_iload_n (q := 57) (i := 2) rfl rfl rfl rfl ?_
            refine R_cS2I (q := 60) (ci := 9) (C := C_X7_deskAt) rfl rfl rfl rfl rfl ⟨_, _, rfl, (by first | trivial | assumption | omega)⟩ rfl rfl (fun x M' hc => ?_)
            replace hc := hc _ _ rfl
            try simp only [sh_mr, mr_mr] at hc
            obtain ⟨rfl, rfl⟩ := hc
            refine R_iconst (q := 61) rfl rfl ?_
            refine R_iadd (q := 62) rfl rfl ?_
            refine R_dup2 (q := 63) rfl rfl rfl rfl ?_
            refine R_iald (q := 64) (v := sh b (M 12) (28 + 4 * d)) rfl rfl rfl (by omega) (by omega) (by first | exact rd12 (by omega) | exact rdmr (by omega)) ?_
            refine R_iconst (q := 65) rfl rfl ?_
            refine R_iadd (q := 66) rfl rfl ?_
            refine R_iast (q := 67) (M2 := mr b M (lkd (sh b (M 12)) d)) rfl rfl rfl (by omega) (by omega) (by first | exact upmr (by omega) | exact up12 (by omega)) ?_
            refine R_iload (q := 69) rfl rfl rfl ?_
            refine R_if_ne (q := 72) (tgt := 101) rfl rfl (by decide) (by omega) (fun h69 => ?_) (fun h69 => ?_)
            · omega
            · refine R_iload (q := 74) rfl rfl rfl ?_
              refine R_if_eq (q := 77) (tgt := 101) rfl rfl (by decide) (by omega) (fun h74 => ?_) (fun h74 => ?_)
              · omega
              · refine R_aload_n (q := 78) (i := 0) rfl rfl rfl rfl ?_
                refine R_getR (q := 81) rfl rfl rfl rfl rfl (by omega) ?_
                refine R_iload_n (q := 82) (i := 1) rfl rfl rfl rfl ?_
                refine R_bipush (q := 84) rfl rfl (by decide) ?_
                refine R_iadd (q := 85) rfl rfl ?_
                refine R_iald (q := 86) (v := (sh b (M 12)) 9) rfl rfl rfl (by omega) (by omega) (Eq.trans (rdmr (by omega)) (lkd_o (by omega))) ?_
                refine R_iload_n (q := 87) (i := 3) rfl rfl rfl rfl ?_
                refine R_isub (q := 88) rfl rfl ?_
                refine R_aload_n (q := 89) (i := 0) rfl rfl rfl rfl ?_
                refine R_getR (q := 92) rfl rfl rfl rfl rfl (by omega) ?_
                refine R_iload_n (q := 93) (i := 1) rfl rfl rfl rfl ?_
                refine R_iconst (q := 94) rfl rfl ?_
                refine R_iadd (q := 95) rfl rfl ?_
                refine R_iald (q := 96) (v := (sh b (M 12)) 5) rfl rfl rfl (by omega) (by omega) (Eq.trans (rdmr (by omega)) (lkd_o (by omega))) ?_
                refine R_icmp_lt (q := 99) (tgt := 101) rfl rfl (by decide) (by omega) (by omega) (fun h96 => ?_) (fun h96 => ?_)
                · omega
                · refine R_iconst (q := 100) rfl rfl ?_
                  refine R_ret rfl (Or.inr ⟨rfl, (by first | exact Or.inl rfl | exact Or.inr rfl | omega)⟩) ?_
                  rw [if_pos fin]
                  exact ⟨rfl, rfl⟩
        · omega
      · have fin : ¬ lkS (sh b (M 12)) d o0 := fun z => hs z.2.2
        have eg : lkg (sh b (M 12)) d = opn (rmv (lkd (sh b (M 12)) d) d 0) q := by
          unfold lkg
          rw [← hq, if_neg hm, if_neg (fun z => z.1 hd), if_pos hd]
        refine R_aload_n (q := 1) (i := 0) rfl rfl rfl rfl ?_
        refine R_getR (q := 4) rfl rfl rfl rfl rfl (by omega) ?_
        refine R_iload_n (q := 5) (i := 1) rfl rfl rfl rfl ?_
        refine R_iload_n (q := 6) (i := 2) rfl rfl rfl rfl ?_
        refine R_iconst (q := 7) rfl rfl ?_
        refine R_cS3I (q := 10) (ci := 9) (C := C_X7_queueAt) rfl rfl rfl rfl rfl ⟨_, _, _, rfl, (by first | trivial | assumption | omega)⟩ rfl rfl (fun x M' hc => ?_)
        replace hc := hc _ _ _ rfl
        try simp only [sh_mr, mr_mr] at hc
        obtain ⟨rfl, rfl⟩ := hc
        refine R_iald (q := 11) (v := q) rfl rfl rfl (by omega) (by omega) (Eq.trans (rd12 (by omega)) hq.symm) ?_
        refine R_istore (q := 13) rfl rfl rfl ?_
        refine R_aload_n (q := 14) (i := 0) rfl rfl rfl rfl ?_
        refine R_iload_n (q := 15) (i := 1) rfl rfl rfl rfl ?_
        refine R_iload (q := 17) rfl rfl rfl ?_
        refine R_cV2I (q := 20) (ci := 7) (C := C_X7_doubt) rfl rfl rfl rfl rfl ⟨_, _, _, rfl, ⟨rfl, h1, h5, h3⟩⟩ rfl rfl (by omega) (fun x M' hc => ?_)
        replace hc := hc _ _ _ rfl
        try simp only [sh_mr, mr_mr] at hc
        obtain ⟨rfl, rfl⟩ := hc
        refine R_istore (q := 22) rfl rfl rfl ?_
        refine R_aload_n (q := 23) (i := 0) rfl rfl rfl rfl ?_
        refine R_iload_n (q := 24) (i := 1) rfl rfl rfl rfl ?_
        refine R_iload (q := 26) rfl rfl rfl ?_
        refine R_cV2I (q := 29) (ci := 7) (C := C_X7_disagreeing) rfl rfl rfl rfl rfl ⟨_, _, _, rfl, ⟨rfl, h1, h5, h3⟩⟩ rfl rfl (by omega) (fun x M' hc => ?_)
        replace hc := hc _ _ _ rfl
        try simp only [sh_mr, mr_mr] at hc
        obtain ⟨rfl, rfl⟩ := hc
        refine R_if_ne (q := 32) (tgt := 36) rfl rfl (by decide) (by omega) (fun h29 => ?_) (fun h29 => ?_)
        · refine R_iconst (q := 37) rfl rfl ?_
          refine R_istore (q := 39) rfl rfl rfl ?_
          refine R_iload_n (q := 40) (i := 2) rfl rfl rfl rfl ?_
          refine R_iconst (q := 41) rfl rfl ?_
          refine R_icmp_ne (q := 44) (tgt := 48) rfl rfl (by decide) (by omega) (by omega) (fun h41 => ?_) (fun h41 => ?_)
          · omega
          · refine R_iconst (q := 45) rfl rfl ?_
            refine R_goto (q := 48) (tgt := 49) rfl rfl (by decide) ?_
            refine R_istore (q := 51) rfl rfl rfl ?_
            refine R_aload_n (q := 52) (i := 0) rfl rfl rfl rfl ?_
            refine R_getR (q := 55) rfl rfl rfl rfl rfl (by omega) ?_
            refine R_iload_n (q := 56) (i := 1) rfl rfl rfl rfl ?_
            refine R_iload_n (q := 57) (i := 2) rfl rfl rfl rfl ?_
            refine R_cS2I (q := 60) (ci := 9) (C := C_X7_deskAt) rfl rfl rfl rfl rfl ⟨_, _, rfl, (by first | trivial | assumption | omega)⟩ rfl rfl (fun x M' hc => ?_)
            replace hc := hc _ _ rfl
            try simp only [sh_mr, mr_mr] at hc
            obtain ⟨rfl, rfl⟩ := hc
            refine R_iconst (q := 61) rfl rfl ?_
            refine R_iadd (q := 62) rfl rfl ?_
            refine R_dup2 (q := 63) rfl rfl rfl rfl ?_
            refine R_iald (q := 64) (v := sh b (M 12) (28 + 4 * d)) rfl rfl rfl (by omega) (by omega) (by first | exact rd12 (by omega) | exact rdmr (by omega)) ?_
            refine R_iconst (q := 65) rfl rfl ?_
            refine R_iadd (q := 66) rfl rfl ?_
            refine R_iast (q := 67) (M2 := mr b M (lkd (sh b (M 12)) d)) rfl rfl rfl (by omega) (by omega) (by first | exact upmr (by omega) | exact up12 (by omega)) ?_
            refine R_iload (q := 69) rfl rfl rfl ?_
            refine R_if_ne (q := 72) (tgt := 101) rfl rfl (by decide) (by omega) (fun h69 => ?_) (fun h69 => ?_)
            · omega
            · refine R_iload (q := 74) rfl rfl rfl ?_
              refine R_if_eq (q := 77) (tgt := 101) rfl rfl (by decide) (by omega) (fun h74 => ?_) (fun h74 => ?_)
              · omega
              · refine R_aload_n (q := 78) (i := 0) rfl rfl rfl rfl ?_
                refine R_getR (q := 81) rfl rfl rfl rfl rfl (by omega) ?_
                refine R_iload_n (q := 82) (i := 1) rfl rfl rfl rfl ?_
                refine R_bipush (q := 84) rfl rfl (by decide) ?_
                refine R_iadd (q := 85) rfl rfl ?_
                refine R_iald (q := 86) (v := (sh b (M 12)) 9) rfl rfl rfl (by omega) (by omega) (Eq.trans (rdmr (by omega)) (lkd_o (by omega))) ?_
                refine R_iload_n (q := 87) (i := 3) rfl rfl rfl rfl ?_
                refine R_isub (q := 88) rfl rfl ?_
                refine R_aload_n (q := 89) (i := 0) rfl rfl rfl rfl ?_
                refine R_getR (q := 92) rfl rfl rfl rfl rfl (by omega) ?_
                refine R_iload_n (q := 93) (i := 1) rfl rfl rfl rfl ?_
                refine R_iconst (q := 94) rfl rfl ?_
                refine R_iadd (q := 95) rfl rfl ?_
                refine R_iald (q := 96) (v := (sh b (M 12)) 5) rfl rfl rfl (by omega) (by omega) (Eq.trans (rdmr (by omega)) (lkd_o (by omega))) ?_
                refine R_icmp_lt (q := 99) (tgt := 101) rfl rfl (by decide) (by omega) (by omega) (fun h96 => ?_) (fun h96 => ?_)
                · refine R_aload_n (q := 102) (i := 0) rfl rfl rfl rfl ?_
                  refine R_iload_n (q := 103) (i := 1) rfl rfl rfl rfl ?_
                  refine R_iload_n (q := 104) (i := 2) rfl rfl rfl rfl ?_
                  refine R_iconst (q := 105) rfl rfl ?_
                  refine R_cV3N (q := 108) (ci := 7) (C := C_X7_removes) rfl rfl rfl rfl rfl ⟨_, _, _, _, rfl, ⟨rfl, h1, h2, by simp only [sh_mr]; rw [lkd_o rm]; omega⟩⟩ rfl rfl (by omega) (fun M' hc => ?_)
                  replace hc := hc _ _ _ _ rfl
                  try simp only [sh_mr, mr_mr] at hc
                  subst hc
                  refine R_iload (q := 110) rfl rfl rfl ?_
                  refine R_if_eq (q := 113) (tgt := 125) rfl rfl (by decide) (by omega) (fun h110 => ?_) (fun h110 => ?_)
                  · refine R_iload (q := 127) rfl rfl rfl ?_
                    refine R_if_ne (q := 130) (tgt := 176) rfl rfl (by decide) (by omega) (fun h127 => ?_) (fun h127 => ?_)
                    · refine R_iload (q := 178) rfl rfl rfl ?_
                      refine R_if_eq (q := 181) (tgt := 191) rfl rfl (by decide) (by omega) (fun h178 => ?_) (fun h178 => ?_)
                      · omega
                      · refine R_aload_n (q := 182) (i := 0) rfl rfl rfl rfl ?_
                        refine R_iload_n (q := 183) (i := 1) rfl rfl rfl rfl ?_
                        refine R_iload (q := 185) rfl rfl rfl ?_
                        refine R_cV2N (q := 188) (ci := 7) (C := C_X7_opens) rfl rfl rfl rfl rfl ⟨_, _, _, rfl, ⟨rfl, h1, h5, by simp only [sh_mr]; exact rl_Bd h2 h4.2 h3, by simp only [sh_mr]; rw [rl_o h2 h4.2 (by omega) (by omega) (by omega)]; exact h7⟩⟩ rfl rfl (by omega) (fun M' hc => ?_)
                        replace hc := hc _ _ _ rfl
                        try simp only [sh_mr, mr_mr] at hc
                        subst hc
                        refine R_goto (q := 191) (tgt := 219) rfl rfl (by decide) ?_
                        refine R_iconst (q := 220) rfl rfl ?_
                        refine R_ret rfl (Or.inr ⟨rfl, (by first | exact Or.inl rfl | exact Or.inr rfl | omega)⟩) ?_
                        rw [if_neg fin, eg]
                        exact ⟨rfl, rfl⟩
                    · omega
                  · omega
                · omega
        · omega
    · have fin : ¬ lkS (sh b (M 12)) d o0 := fun z => hd z.2.1
      by_cases hs : dbt (sh b (M 12)) q ≤ (sh b (M 12)) 0 * (d + 1)
      · have eg : lkg (sh b (M 12)) d = pss (tks (rmv (lkd (sh b (M 12)) d) d 0) q ((sh b (M 12)) 1) 11) d q 1 := by
          unfold lkg
          rw [← hq, if_neg hm, if_pos ⟨hd, hs⟩]
        refine R_aload_n (q := 1) (i := 0) rfl rfl rfl rfl ?_
        refine R_getR (q := 4) rfl rfl rfl rfl rfl (by omega) ?_
        refine R_iload_n (q := 5) (i := 1) rfl rfl rfl rfl ?_
        refine R_iload_n (q := 6) (i := 2) rfl rfl rfl rfl ?_
        refine R_iconst (q := 7) rfl rfl ?_
        refine R_cS3I (q := 10) (ci := 9) (C := C_X7_queueAt) rfl rfl rfl rfl rfl ⟨_, _, _, rfl, (by first | trivial | assumption | omega)⟩ rfl rfl (fun x M' hc => ?_)
        replace hc := hc _ _ _ rfl
        try simp only [sh_mr, mr_mr] at hc
        obtain ⟨rfl, rfl⟩ := hc
        refine R_iald (q := 11) (v := q) rfl rfl rfl (by omega) (by omega) (Eq.trans (rd12 (by omega)) hq.symm) ?_
        refine R_istore (q := 13) rfl rfl rfl ?_
        refine R_aload_n (q := 14) (i := 0) rfl rfl rfl rfl ?_
        refine R_iload_n (q := 15) (i := 1) rfl rfl rfl rfl ?_
        refine R_iload (q := 17) rfl rfl rfl ?_
        refine R_cV2I (q := 20) (ci := 7) (C := C_X7_doubt) rfl rfl rfl rfl rfl ⟨_, _, _, rfl, ⟨rfl, h1, h5, h3⟩⟩ rfl rfl (by omega) (fun x M' hc => ?_)
        replace hc := hc _ _ _ rfl
        try simp only [sh_mr, mr_mr] at hc
        obtain ⟨rfl, rfl⟩ := hc
        refine R_istore (q := 22) rfl rfl rfl ?_
        refine R_aload_n (q := 23) (i := 0) rfl rfl rfl rfl ?_
        refine R_iload_n (q := 24) (i := 1) rfl rfl rfl rfl ?_
        refine R_iload (q := 26) rfl rfl rfl ?_
        refine R_cV2I (q := 29) (ci := 7) (C := C_X7_disagreeing) rfl rfl rfl rfl rfl ⟨_, _, _, rfl, ⟨rfl, h1, h5, h3⟩⟩ rfl rfl (by omega) (fun x M' hc => ?_)
        replace hc := hc _ _ _ rfl
        try simp only [sh_mr, mr_mr] at hc
        obtain ⟨rfl, rfl⟩ := hc
        refine R_if_ne (q := 32) (tgt := 36) rfl rfl (by decide) (by omega) (fun h29 => ?_) (fun h29 => ?_)
        · refine R_iconst (q := 37) rfl rfl ?_
          refine R_istore (q := 39) rfl rfl rfl ?_
          refine R_iload_n (q := 40) (i := 2) rfl rfl rfl rfl ?_
          refine R_iconst (q := 41) rfl rfl ?_
          refine R_icmp_ne (q := 44) (tgt := 48) rfl rfl (by decide) (by omega) (by omega) (fun h41 => ?_) (fun h41 => ?_)
          · refine R_iconst (q := 49) rfl rfl ?_
            refine R_istore (q := 51) rfl rfl rfl ?_
            refine R_aload_n (q := 52) (i := 0) rfl rfl rfl rfl ?_
            refine R_getR (q := 55) rfl rfl rfl rfl rfl (by omega) ?_
            refine R_iload_n (q := 56) (i := 1) rfl rfl rfl rfl ?_
            refine R_iload_n (q := 57) (i := 2) rfl rfl rfl rfl ?_
            refine R_cS2I (q := 60) (ci := 9) (C := C_X7_deskAt) rfl rfl rfl rfl rfl ⟨_, _, rfl, (by first | trivial | assumption | omega)⟩ rfl rfl (fun x M' hc => ?_)
            replace hc := hc _ _ rfl
            try simp only [sh_mr, mr_mr] at hc
            obtain ⟨rfl, rfl⟩ := hc
            refine R_iconst (q := 61) rfl rfl ?_
            refine R_iadd (q := 62) rfl rfl ?_
            refine R_dup2 (q := 63) rfl rfl rfl rfl ?_
            refine R_iald (q := 64) (v := sh b (M 12) (28 + 4 * d)) rfl rfl rfl (by omega) (by omega) (by first | exact rd12 (by omega) | exact rdmr (by omega)) ?_
            refine R_iconst (q := 65) rfl rfl ?_
            refine R_iadd (q := 66) rfl rfl ?_
            refine R_iast (q := 67) (M2 := mr b M (lkd (sh b (M 12)) d)) rfl rfl rfl (by omega) (by omega) (by first | exact upmr (by omega) | exact up12 (by omega)) ?_
            refine R_iload (q := 69) rfl rfl rfl ?_
            refine R_if_ne (q := 72) (tgt := 101) rfl rfl (by decide) (by omega) (fun h69 => ?_) (fun h69 => ?_)
            · omega
            · refine R_iload (q := 74) rfl rfl rfl ?_
              refine R_if_eq (q := 77) (tgt := 101) rfl rfl (by decide) (by omega) (fun h74 => ?_) (fun h74 => ?_)
              · refine R_aload_n (q := 102) (i := 0) rfl rfl rfl rfl ?_
                refine R_iload_n (q := 103) (i := 1) rfl rfl rfl rfl ?_
                refine R_iload_n (q := 104) (i := 2) rfl rfl rfl rfl ?_
                refine R_iconst (q := 105) rfl rfl ?_
                refine R_cV3N (q := 108) (ci := 7) (C := C_X7_removes) rfl rfl rfl rfl rfl ⟨_, _, _, _, rfl, ⟨rfl, h1, h2, by simp only [sh_mr]; rw [lkd_o rm]; omega⟩⟩ rfl rfl (by omega) (fun M' hc => ?_)
                replace hc := hc _ _ _ _ rfl
                try simp only [sh_mr, mr_mr] at hc
                subst hc
                refine R_iload (q := 110) rfl rfl rfl ?_
                refine R_if_eq (q := 113) (tgt := 125) rfl rfl (by decide) (by omega) (fun h110 => ?_) (fun h110 => ?_)
                · refine R_iload (q := 127) rfl rfl rfl ?_
                  refine R_if_ne (q := 130) (tgt := 176) rfl rfl (by decide) (by omega) (fun h127 => ?_) (fun h127 => ?_)
                  · omega
                  · refine R_iload (q := 132) rfl rfl rfl ?_
                    refine R_aload_n (q := 133) (i := 0) rfl rfl rfl rfl ?_
                    refine R_getR (q := 136) rfl rfl rfl rfl rfl (by omega) ?_
                    refine R_iload_n (q := 137) (i := 1) rfl rfl rfl rfl ?_
                    refine R_iconst (q := 138) rfl rfl ?_
                    refine R_iadd (q := 139) rfl rfl ?_
                    refine R_iald (q := 140) (v := (sh b (M 12)) 0) rfl rfl rfl (by omega) (by omega) (Eq.trans (rdmr (by omega)) (rl_o h2 h4.2 (by omega) (by omega) (by omega))) ?_
                    refine R_iload_n (q := 141) (i := 2) rfl rfl rfl rfl ?_
                    refine R_iconst (q := 142) rfl rfl ?_
                    refine R_iadd (q := 143) rfl rfl ?_
                    refine R_imul (q := 144) rfl rfl ?_
                    refine R_icmp_gt (q := 147) (tgt := 176) rfl rfl (by decide) (by omega) (by omega) (fun h144 => ?_) (fun h144 => ?_)
                    · omega
                    · refine R_aload_n (q := 148) (i := 0) rfl rfl rfl rfl ?_
                      refine R_iload_n (q := 149) (i := 1) rfl rfl rfl rfl ?_
                      refine R_iload (q := 151) rfl rfl rfl ?_
                      refine R_aload_n (q := 152) (i := 0) rfl rfl rfl rfl ?_
                      refine R_getR (q := 155) rfl rfl rfl rfl rfl (by omega) ?_
                      refine R_iload_n (q := 156) (i := 1) rfl rfl rfl rfl ?_
                      refine R_iconst (q := 157) rfl rfl ?_
                      refine R_iadd (q := 158) rfl rfl ?_
                      refine R_iald (q := 159) (v := (sh b (M 12)) 1) rfl rfl rfl (by omega) (by omega) (Eq.trans (rdmr (by omega)) (rl_o h2 h4.2 (by omega) (by omega) (by omega))) ?_
                      refine R_bipush (q := 161) rfl rfl (by decide) ?_
                      refine R_cV4N (q := 164) (ci := 7) (C := C_X7_takes) rfl rfl rfl rfl rfl ⟨_, _, _, _, _, rfl, ⟨rfl, h1, h5, by omega⟩⟩ rfl rfl (by omega) (fun M' hc => ?_)
                      replace hc := hc _ _ _ _ _ rfl
                      try simp only [sh_mr, mr_mr] at hc
                      subst hc
                      refine R_aload_n (q := 165) (i := 0) rfl rfl rfl rfl ?_
                      refine R_iload_n (q := 166) (i := 1) rfl rfl rfl rfl ?_
                      refine R_iload_n (q := 167) (i := 2) rfl rfl rfl rfl ?_
                      refine R_iload (q := 169) rfl rfl rfl ?_
                      refine R_iconst (q := 170) rfl rfl ?_
                      refine R_cV4N (q := 173) (ci := 7) (C := C_X7_passes) rfl rfl rfl rfl rfl ⟨_, _, _, _, _, rfl, ⟨rfl, h1, h2, h5, Or.inl rfl⟩⟩ rfl rfl (by omega) (fun M' hc => ?_)
                      replace hc := hc _ _ _ _ _ rfl
                      try simp only [sh_mr, mr_mr] at hc
                      subst hc
                      refine R_goto (q := 176) (tgt := 219) rfl rfl (by decide) ?_
                      refine R_iconst (q := 220) rfl rfl ?_
                      refine R_ret rfl (Or.inr ⟨rfl, (by first | exact Or.inl rfl | exact Or.inr rfl | omega)⟩) ?_
                      rw [if_neg fin, eg]
                      exact ⟨rfl, rfl⟩
                · omega
              · omega
          · omega
        · omega
      · have eg : lkg (sh b (M 12)) d = us (jn (rmv (lkd (sh b (M 12)) d) d 0) (d + 1) q) (94 + 9 * q) ((sh b (M 12)) (94 + 9 * q) + 1) := by
          unfold lkg
          rw [← hq, if_neg hm, if_neg (fun z => hs z.2), if_neg hd]
        have e31 : rmv (lkd (sh b (M 12)) d) d 0 (27 + 4 * (d + 1)) = (sh b (M 12)) (31 + 4 * d) := by
          rw [rl_o h2 h4.2 (by omega) (by omega) (by omega)]
          congr 1
          omega
        refine R_aload_n (q := 1) (i := 0) rfl rfl rfl rfl ?_
        refine R_getR (q := 4) rfl rfl rfl rfl rfl (by omega) ?_
        refine R_iload_n (q := 5) (i := 1) rfl rfl rfl rfl ?_
        refine R_iload_n (q := 6) (i := 2) rfl rfl rfl rfl ?_
        refine R_iconst (q := 7) rfl rfl ?_
        refine R_cS3I (q := 10) (ci := 9) (C := C_X7_queueAt) rfl rfl rfl rfl rfl ⟨_, _, _, rfl, (by first | trivial | assumption | omega)⟩ rfl rfl (fun x M' hc => ?_)
        replace hc := hc _ _ _ rfl
        try simp only [sh_mr, mr_mr] at hc
        obtain ⟨rfl, rfl⟩ := hc
        refine R_iald (q := 11) (v := q) rfl rfl rfl (by omega) (by omega) (Eq.trans (rd12 (by omega)) hq.symm) ?_
        refine R_istore (q := 13) rfl rfl rfl ?_
        refine R_aload_n (q := 14) (i := 0) rfl rfl rfl rfl ?_
        refine R_iload_n (q := 15) (i := 1) rfl rfl rfl rfl ?_
        refine R_iload (q := 17) rfl rfl rfl ?_
        refine R_cV2I (q := 20) (ci := 7) (C := C_X7_doubt) rfl rfl rfl rfl rfl ⟨_, _, _, rfl, ⟨rfl, h1, h5, h3⟩⟩ rfl rfl (by omega) (fun x M' hc => ?_)
        replace hc := hc _ _ _ rfl
        try simp only [sh_mr, mr_mr] at hc
        obtain ⟨rfl, rfl⟩ := hc
        refine R_istore (q := 22) rfl rfl rfl ?_
        refine R_aload_n (q := 23) (i := 0) rfl rfl rfl rfl ?_
        refine R_iload_n (q := 24) (i := 1) rfl rfl rfl rfl ?_
        refine R_iload (q := 26) rfl rfl rfl ?_
        refine R_cV2I (q := 29) (ci := 7) (C := C_X7_disagreeing) rfl rfl rfl rfl rfl ⟨_, _, _, rfl, ⟨rfl, h1, h5, h3⟩⟩ rfl rfl (by omega) (fun x M' hc => ?_)
        replace hc := hc _ _ _ rfl
        try simp only [sh_mr, mr_mr] at hc
        obtain ⟨rfl, rfl⟩ := hc
        refine R_if_ne (q := 32) (tgt := 36) rfl rfl (by decide) (by omega) (fun h29 => ?_) (fun h29 => ?_)
        · refine R_iconst (q := 37) rfl rfl ?_
          refine R_istore (q := 39) rfl rfl rfl ?_
          refine R_iload_n (q := 40) (i := 2) rfl rfl rfl rfl ?_
          refine R_iconst (q := 41) rfl rfl ?_
          refine R_icmp_ne (q := 44) (tgt := 48) rfl rfl (by decide) (by omega) (by omega) (fun h41 => ?_) (fun h41 => ?_)
          · refine R_iconst (q := 49) rfl rfl ?_
            refine R_istore (q := 51) rfl rfl rfl ?_
            refine R_aload_n (q := 52) (i := 0) rfl rfl rfl rfl ?_
            refine R_getR (q := 55) rfl rfl rfl rfl rfl (by omega) ?_
            refine R_iload_n (q := 56) (i := 1) rfl rfl rfl rfl ?_
            refine R_iload_n (q := 57) (i := 2) rfl rfl rfl rfl ?_
            refine R_cS2I (q := 60) (ci := 9) (C := C_X7_deskAt) rfl rfl rfl rfl rfl ⟨_, _, rfl, (by first | trivial | assumption | omega)⟩ rfl rfl (fun x M' hc => ?_)
            replace hc := hc _ _ rfl
            try simp only [sh_mr, mr_mr] at hc
            obtain ⟨rfl, rfl⟩ := hc
            refine R_iconst (q := 61) rfl rfl ?_
            refine R_iadd (q := 62) rfl rfl ?_
            refine R_dup2 (q := 63) rfl rfl rfl rfl ?_
            refine R_iald (q := 64) (v := sh b (M 12) (28 + 4 * d)) rfl rfl rfl (by omega) (by omega) (by first | exact rd12 (by omega) | exact rdmr (by omega)) ?_
            refine R_iconst (q := 65) rfl rfl ?_
            refine R_iadd (q := 66) rfl rfl ?_
            refine R_iast (q := 67) (M2 := mr b M (lkd (sh b (M 12)) d)) rfl rfl rfl (by omega) (by omega) (by first | exact upmr (by omega) | exact up12 (by omega)) ?_
            refine R_iload (q := 69) rfl rfl rfl ?_
            refine R_if_ne (q := 72) (tgt := 101) rfl rfl (by decide) (by omega) (fun h69 => ?_) (fun h69 => ?_)
            · omega
            · refine R_iload (q := 74) rfl rfl rfl ?_
              refine R_if_eq (q := 77) (tgt := 101) rfl rfl (by decide) (by omega) (fun h74 => ?_) (fun h74 => ?_)
              · refine R_aload_n (q := 102) (i := 0) rfl rfl rfl rfl ?_
                refine R_iload_n (q := 103) (i := 1) rfl rfl rfl rfl ?_
                refine R_iload_n (q := 104) (i := 2) rfl rfl rfl rfl ?_
                refine R_iconst (q := 105) rfl rfl ?_
                refine R_cV3N (q := 108) (ci := 7) (C := C_X7_removes) rfl rfl rfl rfl rfl ⟨_, _, _, _, rfl, ⟨rfl, h1, h2, by simp only [sh_mr]; rw [lkd_o rm]; omega⟩⟩ rfl rfl (by omega) (fun M' hc => ?_)
                replace hc := hc _ _ _ _ rfl
                try simp only [sh_mr, mr_mr] at hc
                subst hc
                refine R_iload (q := 110) rfl rfl rfl ?_
                refine R_if_eq (q := 113) (tgt := 125) rfl rfl (by decide) (by omega) (fun h110 => ?_) (fun h110 => ?_)
                · refine R_iload (q := 127) rfl rfl rfl ?_
                  refine R_if_ne (q := 130) (tgt := 176) rfl rfl (by decide) (by omega) (fun h127 => ?_) (fun h127 => ?_)
                  · omega
                  · refine R_iload (q := 132) rfl rfl rfl ?_
                    refine R_aload_n (q := 133) (i := 0) rfl rfl rfl rfl ?_
                    refine R_getR (q := 136) rfl rfl rfl rfl rfl (by omega) ?_
                    refine R_iload_n (q := 137) (i := 1) rfl rfl rfl rfl ?_
                    refine R_iconst (q := 138) rfl rfl ?_
                    refine R_iadd (q := 139) rfl rfl ?_
                    refine R_iald (q := 140) (v := (sh b (M 12)) 0) rfl rfl rfl (by omega) (by omega) (Eq.trans (rdmr (by omega)) (rl_o h2 h4.2 (by omega) (by omega) (by omega))) ?_
                    refine R_iload_n (q := 141) (i := 2) rfl rfl rfl rfl ?_
                    refine R_iconst (q := 142) rfl rfl ?_
                    refine R_iadd (q := 143) rfl rfl ?_
                    refine R_imul (q := 144) rfl rfl ?_
                    refine R_icmp_gt (q := 147) (tgt := 176) rfl rfl (by decide) (by omega) (by omega) (fun h144 => ?_) (fun h144 => ?_)
                    · refine R_iload (q := 178) rfl rfl rfl ?_
                      refine R_if_eq (q := 181) (tgt := 191) rfl rfl (by decide) (by omega) (fun h178 => ?_) (fun h178 => ?_)
                      · refine R_aload_n (q := 192) (i := 0) rfl rfl rfl rfl ?_
                        refine R_iload_n (q := 193) (i := 1) rfl rfl rfl rfl ?_
                        refine R_iload_n (q := 194) (i := 2) rfl rfl rfl rfl ?_
                        refine R_iconst (q := 195) rfl rfl ?_
                        refine R_iadd (q := 196) rfl rfl ?_
                        refine R_iload (q := 198) rfl rfl rfl ?_
                        refine R_cV3N (q := 201) (ci := 7) (C := C_X7_joins) rfl rfl rfl rfl rfl ⟨_, _, _, _, rfl, ⟨rfl, h1, by omega, by simp only [sh_mr]; rw [e31]; exact h6 (by omega)⟩⟩ rfl rfl (by omega) (fun M' hc => ?_)
                        replace hc := hc _ _ _ _ rfl
                        try simp only [sh_mr, mr_mr] at hc
                        subst hc
                        refine R_aload_n (q := 202) (i := 0) rfl rfl rfl rfl ?_
                        refine R_getR (q := 205) rfl rfl rfl rfl rfl (by omega) ?_
                        refine R_iload_n (q := 206) (i := 1) rfl rfl rfl rfl ?_
                        refine R_iload (q := 208) rfl rfl rfl ?_
                        refine R_cS2I (q := 211) (ci := 9) (C := C_X7_trunkAt) rfl rfl rfl rfl rfl ⟨_, _, rfl, (by first | trivial | assumption | omega)⟩ rfl rfl (fun x M' hc => ?_)
                        replace hc := hc _ _ rfl
                        try simp only [sh_mr, mr_mr] at hc
                        obtain ⟨rfl, rfl⟩ := hc
                        refine R_bipush (q := 213) rfl rfl (by decide) ?_
                        refine R_iadd (q := 214) rfl rfl ?_
                        refine R_dup2 (q := 215) rfl rfl rfl rfl ?_
                        refine R_iald (q := 216) (v := (sh b (M 12)) (94 + 9 * q)) rfl rfl rfl (by omega) (by omega) (Eq.trans (rdmr (j := 94 + 9 * q) (by omega)) (by unfold jn; rw [us_n (by omega), us_n (by rw [e31]; have := h6 (by omega); omega), rl_o h2 h4.2 (by omega) (by omega) (by omega)])) ?_
                        refine R_iconst (q := 217) rfl rfl ?_
                        refine R_iadd (q := 218) rfl rfl ?_
                        refine R_iast (q := 219) (M2 := mr b M (us (jn (rmv (lkd (sh b (M 12)) d) d 0) (d + 1) q) (94 + 9 * q) ((sh b (M 12)) (94 + 9 * q) + 1))) rfl rfl rfl (by omega) (by omega) (by first | exact upmr (by omega) | exact up12 (by omega)) ?_
                        refine R_iconst (q := 220) rfl rfl ?_
                        refine R_ret rfl (Or.inr ⟨rfl, (by first | exact Or.inl rfl | exact Or.inr rfl | omega)⟩) ?_
                        rw [if_neg fin, eg]
                        exact ⟨rfl, rfl⟩
                      · omega
                    · omega
                · omega
              · omega
          · omega
        · omega
set_option maxRecDepth 100000 in
theorem mt_X7_looks : MtOK yX7_looks cX7_looks 8 (some .boolean) 5 C_X7_looks := by
  refine mt_of sx_X7_looks (by decide +kernel) (Or.inr (Or.inl ⟨rfl, rfl, rfl⟩)) (by decide +kernel) fdX7_ok kLX7_ok kIX7_ok sgX7_ok ntX7_ok
    (all_cons (clokS mt_X7_queueAt (GT_at 666 (by decide +kernel) (by decide +kernel)) (GT_at 44 (by decide +kernel) (by decide +kernel)) (GT_at 668 (by decide +kernel) (by decide +kernel)) (by decide +kernel) (by decide) (GT_at 667 (by decide +kernel) (by decide +kernel))) (all_cons (clokV mt_X7_doubt rfl (GT_at 684 (by decide +kernel) (by decide +kernel)) (GT_at 44 (by decide +kernel) (by decide +kernel)) (GT_at 687 (by decide +kernel) (by decide +kernel)) (by decide +kernel) (by decide) (GT_at 686 (by decide +kernel) (by decide +kernel)) (GT_at 20 (by decide +kernel) (by decide +kernel)) rfl rfl) (all_cons (clokV mt_X7_disagreeing rfl (GT_at 688 (by decide +kernel) (by decide +kernel)) (GT_at 44 (by decide +kernel) (by decide +kernel)) (GT_at 691 (by decide +kernel) (by decide +kernel)) (by decide +kernel) (by decide) (GT_at 690 (by decide +kernel) (by decide +kernel)) (GT_at 21 (by decide +kernel) (by decide +kernel)) rfl rfl) (all_cons (clokS mt_X7_deskAt (GT_at 555 (by decide +kernel) (by decide +kernel)) (GT_at 44 (by decide +kernel) (by decide +kernel)) (GT_at 557 (by decide +kernel) (by decide +kernel)) (by decide +kernel) (by decide) (GT_at 556 (by decide +kernel) (by decide +kernel))) (all_cons (clokV mt_X7_removes rfl (GT_at 708 (by decide +kernel) (by decide +kernel)) (GT_at 44 (by decide +kernel) (by decide +kernel)) (GT_at 711 (by decide +kernel) (by decide +kernel)) (by decide +kernel) (by decide) (GT_at 710 (by decide +kernel) (by decide +kernel)) (GT_at 25 (by decide +kernel) (by decide +kernel)) rfl rfl) (all_cons (clokV mt_X7_passes rfl (GT_at 733 (by decide +kernel) (by decide +kernel)) (GT_at 44 (by decide +kernel) (by decide +kernel)) (GT_at 736 (by decide +kernel) (by decide +kernel)) (by decide +kernel) (by decide) (GT_at 735 (by decide +kernel) (by decide +kernel)) (GT_at 30 (by decide +kernel) (by decide +kernel)) rfl rfl) (all_cons (clokV mt_X7_takes rfl (GT_at 737 (by decide +kernel) (by decide +kernel)) (GT_at 44 (by decide +kernel) (by decide +kernel)) (GT_at 740 (by decide +kernel) (by decide +kernel)) (by decide +kernel) (by decide) (GT_at 739 (by decide +kernel) (by decide +kernel)) (GT_at 31 (by decide +kernel) (by decide +kernel)) rfl rfl) (all_cons (clokV mt_X7_opens rfl (GT_at 741 (by decide +kernel) (by decide +kernel)) (GT_at 44 (by decide +kernel) (by decide +kernel)) (GT_at 744 (by decide +kernel) (by decide +kernel)) (by decide +kernel) (by decide) (GT_at 743 (by decide +kernel) (by decide +kernel)) (GT_at 32 (by decide +kernel) (by decide +kernel)) rfl rfl) (all_cons (clokV mt_X7_joins rfl (GT_at 662 (by decide +kernel) (by decide +kernel)) (GT_at 44 (by decide +kernel) (by decide +kernel)) (GT_at 665 (by decide +kernel) (by decide +kernel)) (by decide +kernel) (by decide) (GT_at 664 (by decide +kernel) (by decide +kernel)) (GT_at 17 (by decide +kernel) (by decide +kernel)) rfl rfl) (all_cons (clokS mt_X7_trunkAt (GT_at 659 (by decide +kernel) (by decide +kernel)) (GT_at 44 (by decide +kernel) (by decide +kernel)) (GT_at 661 (by decide +kernel) (by decide +kernel)) (by decide +kernel) (by decide) (GT_at 660 (by decide +kernel) (by decide +kernel))) (all_nil))))))))))) ?_ ?_
  · rintro as M - ⟨o, b, d, o0, rfl, hp⟩
    exact Nat.le_of_ble_eq_true rfl
  · rintro L scr as M - ⟨o, b, d, o0, rfl, hp⟩
    exact Runs.mono (fun x M' h _ _ _ _ e => by cases e; exact h) (ok_X7_looks L scr o b d o0 M hp)
