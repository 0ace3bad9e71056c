abbrev C_X6_leastSmall : Ct := (1, true, fun as M => ∃ (o : Nat), as = [wR o] ∧ (o = 3 ∧ GI M), fun as M x M' => ∀ (o : Nat), as = [wR o] → (Bo C_X7_leastSmall [wR 11] M M' x))
def sx_X6_leastSmall : Sx := (tb_X6_leastSmall, fdX6, kLX6, kIX6, sgX6, ntX6, [(212, (4, C_X4_greatestDoubtAt))], 1)
set_option maxRecDepth 100000 in
set_option maxHeartbeats 1000000 in
theorem ok_X6_leastSmall (L : Nat) (scr : Int → Int) (o : Nat) (M : Mem) (hp : o = 3 ∧ GI M) : Runs sx_X6_leastSmall L (xcF scr) (fun x M' => Bo C_X7_leastSmall [wR 11] M M' x) 0 [wR o, none, none, none] [] M := by
  obtain ⟨rfl, g⟩ := hp
  have I := g.2.1.1
  have r0 := g.1.1
  have done : ∀ x, x = lsm (M 12) 201 0 → Bo C_X7_leastSmall [wR 11] M M x := fun x e => Bo_sm g SmC.rf (fun y N q => by
    obtain ⟨rfl, z⟩ := q 11 rfl
    exact ⟨e.trans (Wn.lsm_ (wn_tau rfl) I 201 0 (by omega) (by omega)).symm, SmR.t z⟩)
  have d0 : (0 : Int) ≤ 0 ∧ (0 : Int) < 3 := by omega
  have d1 : (0 : Int) ≤ 1 ∧ (1 : Int) < 3 := by omega
  have d2 : (0 : Int) ≤ 2 ∧ (2 : Int) < 3 := by omega
  have v2 : M (15 + 5 + 2 * (2 : Int).toNat) 2 = M 12 34 := r0.hc d2
  have v1 : M (15 + 5 + 2 * (1 : Int).toNat) 2 = M 12 30 := r0.hc d1
  have v0 : M (15 + 5 + 2 * (0 : Int).toNat) 2 = M 12 26 := r0.hc d0
  have c2 : 0 ≤ M 12 34 ∧ M 12 34 ≤ 3 := ⟨(I.2.2.1 2 d2.1 d2.2).1, (I.2.2.1 2 d2.1 d2.2).2.1⟩
  have c1 : 0 ≤ M 12 30 ∧ M 12 30 ≤ 3 := ⟨(I.2.2.1 1 d1.1 d1.2).1, (I.2.2.1 1 d1.1 d1.2).2.1⟩
  have c0 : 0 ≤ M 12 26 ∧ M 12 26 ≤ 3 := ⟨(I.2.2.1 0 d0.1 d0.2).1, (I.2.2.1 0 d0.1 d0.2).2.1⟩
  have gb : ∀ d, 0 ≤ d ∧ d < 3 → 0 ≤ gdD (M 12) d ∧ gdD (M 12) d ≤ 500 := fun d hd => gdP_bd I hd _ (by have := I.le hd.1 hd.2; omega)
  have b2 := gb 2 d2
  have b1 := gb 1 d1
  have b0 := gb 0 d0
  have l0 := fun h => ls_0 I h
  have l1 := fun h h2 => ls_1 I h h2
  have l2 := fun h h2 => ls_2 I h h2
  have l3 := fun h h2 h3 h4 K (hK : K = (gdD (M 12) 1 + 1) / 2) => ls_3 I h h2 h3 h4 hK
  have l4 := fun h h2 h3 h4 K (hK : K = (gdD (M 12) 1 + 1) / 2 ∧ (gdD (M 12) 0 + 1) / 2 ≤ K ∨ K = (gdD (M 12) 0 + 1) / 2 ∧ (gdD (M 12) 1 + 1) / 2 ≤ K) => ls_4 I h h2 h3 h4 hK
  have eq2 : gdD (M 12) 2 = gdD (M 12) 2 := rfl
  obtain ⟨g2, hg2⟩ : ∃ z, z = gdD (M 12) 2 := ⟨_, rfl⟩
  obtain ⟨g1, hg1⟩ : ∃ z, z = gdD (M 12) 1 := ⟨_, rfl⟩
  obtain ⟨g0, hg0⟩ : ∃ z, z = gdD (M 12) 0 := ⟨_, rfl⟩
  clear eq2
  rw [← hg2] at b2 l1 l2
  rw [← hg1] at b1
  rw [← hg0] at b0
  rw [← hg2, ← hg1] at l3
  rw [← hg2, ← hg1, ← hg0] at l4
  have x200 : xcF scr 2 0 = 200 := rfl
  by_cases a2 : M 12 34 ≤ 0
  · replace l0 := l0 a2
    refine R_iconst (q := 1) rfl rfl ?_
    refine R_istore_n (q := 2) (i := 1) rfl rfl rfl rfl ?_
    refine R_iconst (q := 3) rfl rfl ?_
    refine R_istore_n (q := 4) (i := 2) rfl rfl rfl rfl ?_
    refine R_iload_n (q := 5) (i := 2) rfl rfl rfl rfl ?_
    refine R_if_lt (q := 8) (tgt := 62) rfl rfl (by decide) (by omega) (fun h5 => ?_) (fun h5 => ?_)
    · omega
    · refine R_aload_n (q := 9) (i := 0) rfl rfl rfl rfl ?_
      refine R_getR (q := 12) rfl rfl rfl rfl rfl (by omega) ?_
      refine R_getR (q := 15) rfl rfl rfl (lay0 st15) rfl (by omega) ?_
      refine R_iload_n (q := 16) (i := 2) rfl rfl rfl rfl ?_
      refine R_aald (q := 17) (r2 := 15 + 5 + 2 * (2 : Int).toNat) rfl rfl (layi st15 rfl) (by omega) (by omega) rfl ?_
      refine R_getI (q := 20) (k1 := 2) rfl rfl rfl (lay_dk (dkI st15 d2)) rfl (by omega) rfl ?_
      rw [v2]
      refine R_if_le (q := 23) (tgt := 62) rfl rfl (by decide) (by omega) (fun h20 => ?_) (fun h20 => ?_)
      · refine R_iload_n (q := 63) (i := 1) rfl rfl rfl rfl ?_
        refine R_gets (q := 66) rfl rfl rfl ?_
        refine R_iconst (q := 67) rfl rfl ?_
        refine R_ialdX (q := 68) rfl rfl (by decide) (show (0 : Int) ≤ 0 ∧ (0 : Int) < ((6 : Nat) : Int) by omega) ?_
        rw [x200]
        refine R_icmp_gt (q := 71) (tgt := 75) rfl rfl (by decide) (by omega) (by omega) (fun h68 => ?_) (fun h68 => ?_)
        · omega
        · refine R_iload_n (q := 72) (i := 1) rfl rfl rfl rfl ?_
          refine R_goto (q := 75) (tgt := 77) rfl rfl (by decide) ?_
          refine R_ret rfl (Or.inl rfl) ?_
          exact done _ l0.symm
      · omega
  by_cases a3 : 0 < g2
  · replace l1 := l1 (by omega) a3
    rw [l1] at done
    refine R_iconst (q := 1) rfl rfl ?_
    refine R_istore_n (q := 2) (i := 1) rfl rfl rfl rfl ?_
    refine R_iconst (q := 3) rfl rfl ?_
    refine R_istore_n (q := 4) (i := 2) rfl rfl rfl rfl ?_
    refine R_iload_n (q := 5) (i := 2) rfl rfl rfl rfl ?_
    refine R_if_lt (q := 8) (tgt := 62) rfl rfl (by decide) (by omega) (fun h5 => ?_) (fun h5 => ?_)
    · omega
    · refine R_aload_n (q := 9) (i := 0) rfl rfl rfl rfl ?_
      refine R_getR (q := 12) rfl rfl rfl rfl rfl (by omega) ?_
      refine R_getR (q := 15) rfl rfl rfl (lay0 st15) rfl (by omega) ?_
      refine R_iload_n (q := 16) (i := 2) rfl rfl rfl rfl ?_
      refine R_aald (q := 17) (r2 := 15 + 5 + 2 * (2 : Int).toNat) rfl rfl (layi st15 rfl) (by omega) (by omega) rfl ?_
      refine R_getI (q := 20) (k1 := 2) rfl rfl rfl (lay_dk (dkI st15 d2)) rfl (by omega) rfl ?_
      rw [v2]
      refine R_if_le (q := 23) (tgt := 62) rfl rfl (by decide) (by omega) (fun h20 => ?_) (fun h20 => ?_)
      · omega
      · refine R_aload_n (q := 24) (i := 0) rfl rfl rfl rfl ?_
        refine R_getR (q := 27) rfl rfl rfl rfl rfl (by omega) ?_
        refine R_iload_n (q := 28) (i := 2) rfl rfl rfl rfl ?_
        refine R_gh (M 12) ?_
        refine R_cV1I (q := 31) (ci := 4) (C := C_X4_greatestDoubtAt) rfl rfl rfl rfl rfl ⟨_, _, rfl, ⟨g.si, d2⟩⟩ rfl (lay0 st15) (by omega) (fun x M' hc => ?_)
        replace hc := hc _ _ rfl
        obtain ⟨hc, rfl⟩ := hc
        have hc : gdD (M 12) 2 = x := hc
        rw [← hg2] at hc
        subst hc
        refine R_un ?_
        refine R_istore_n (q := 32) (i := 3) rfl rfl rfl rfl ?_
        refine R_iload_n (q := 33) (i := 2) rfl rfl rfl rfl ?_
        refine R_iconst (q := 34) rfl rfl ?_
        refine R_icmp_ne (q := 37) (tgt := 44) rfl rfl (by decide) (by omega) (by omega) (fun h34 => ?_) (fun h34 => ?_)
        · omega
        · refine R_iload_n (q := 38) (i := 3) rfl rfl rfl rfl ?_
          refine R_if_le (q := 41) (tgt := 44) rfl rfl (by decide) (by omega) (fun h38 => ?_) (fun h38 => ?_)
          · omega
          · refine R_bipush (q := 43) rfl rfl (by decide) ?_
            refine R_ret rfl (Or.inl rfl) ?_
            exact done _ rfl
  by_cases a1 : M 12 30 ≤ 0
  · replace l2 := l2 (by omega) a1
    rw [l2] at done
    refine R_iconst (q := 1) rfl rfl ?_
    refine R_istore_n (q := 2) (i := 1) rfl rfl rfl rfl ?_
    refine R_iconst (q := 3) rfl rfl ?_
    refine R_istore_n (q := 4) (i := 2) rfl rfl rfl rfl ?_
    refine R_iload_n (q := 5) (i := 2) rfl rfl rfl rfl ?_
    refine R_if_lt (q := 8) (tgt := 62) rfl rfl (by decide) (by omega) (fun h5 => ?_) (fun h5 => ?_)
    · omega
    · refine R_aload_n (q := 9) (i := 0) rfl rfl rfl rfl ?_
      refine R_getR (q := 12) rfl rfl rfl rfl rfl (by omega) ?_
      refine R_getR (q := 15) rfl rfl rfl (lay0 st15) rfl (by omega) ?_
      refine R_iload_n (q := 16) (i := 2) rfl rfl rfl rfl ?_
      refine R_aald (q := 17) (r2 := 15 + 5 + 2 * (2 : Int).toNat) rfl rfl (layi st15 rfl) (by omega) (by omega) rfl ?_
      refine R_getI (q := 20) (k1 := 2) rfl rfl rfl (lay_dk (dkI st15 d2)) rfl (by omega) rfl ?_
      rw [v2]
      refine R_if_le (q := 23) (tgt := 62) rfl rfl (by decide) (by omega) (fun h20 => ?_) (fun h20 => ?_)
      · omega
      · refine R_aload_n (q := 24) (i := 0) rfl rfl rfl rfl ?_
        refine R_getR (q := 27) rfl rfl rfl rfl rfl (by omega) ?_
        refine R_iload_n (q := 28) (i := 2) rfl rfl rfl rfl ?_
        refine R_gh (M 12) ?_
        refine R_cV1I (q := 31) (ci := 4) (C := C_X4_greatestDoubtAt) rfl rfl rfl rfl rfl ⟨_, _, rfl, ⟨g.si, d2⟩⟩ rfl (lay0 st15) (by omega) (fun x M' hc => ?_)
        replace hc := hc _ _ rfl
        obtain ⟨hc, rfl⟩ := hc
        have hc : gdD (M 12) 2 = x := hc
        rw [← hg2] at hc
        subst hc
        refine R_un ?_
        refine R_istore_n (q := 32) (i := 3) rfl rfl rfl rfl ?_
        refine R_iload_n (q := 33) (i := 2) rfl rfl rfl rfl ?_
        refine R_iconst (q := 34) rfl rfl ?_
        refine R_icmp_ne (q := 37) (tgt := 44) rfl rfl (by decide) (by omega) (by omega) (fun h34 => ?_) (fun h34 => ?_)
        · omega
        · refine R_iload_n (q := 38) (i := 3) rfl rfl rfl rfl ?_
          refine R_if_le (q := 41) (tgt := 44) rfl rfl (by decide) (by omega) (fun h38 => ?_) (fun h38 => ?_)
          · refine R_iload_n (q := 45) (i := 1) rfl rfl rfl rfl ?_
            refine R_iload_n (q := 46) (i := 3) rfl rfl rfl rfl ?_
            refine R_iconst (q := 47) rfl rfl ?_
            refine R_iadd (q := 48) rfl rfl ?_
            refine R_iconst (q := 49) rfl rfl ?_
            refine R_isub (q := 50) rfl rfl ?_
            refine R_iconst (q := 51) rfl rfl ?_
            refine R_idiv (q := 52) rfl rfl (by omega) ?_
            rw [i32div_of (by omega) (by omega) (by omega) (by omega)]
            refine R_mmax (q := 55) rfl rfl rfl (by omega) (by omega) rfl ?_
            rw [if_neg (by omega)]
            refine R_istore_n (q := 56) (i := 1) rfl rfl rfl rfl ?_
            refine R_iinc (q := 59) rfl rfl rfl rfl ?_
            refine R_goto (q := 62) (tgt := 4) rfl rfl (by decide) ?_
            refine R_iload_n (q := 5) (i := 2) rfl rfl rfl rfl ?_
            refine R_if_lt (q := 8) (tgt := 62) rfl rfl (by decide) (by omega) (fun h5 => ?_) (fun h5 => ?_)
            · omega
            · refine R_aload_n (q := 9) (i := 0) rfl rfl rfl rfl ?_
              refine R_getR (q := 12) rfl rfl rfl rfl rfl (by omega) ?_
              refine R_getR (q := 15) rfl rfl rfl (lay0 st15) rfl (by omega) ?_
              refine R_iload_n (q := 16) (i := 2) rfl rfl rfl rfl ?_
              refine R_aald (q := 17) (r2 := 15 + 5 + 2 * (1 : Int).toNat) rfl rfl (layi st15 rfl) (by omega) (by omega) rfl ?_
              refine R_getI (q := 20) (k1 := 2) rfl rfl rfl (lay_dk (dkI st15 d1)) rfl (by omega) rfl ?_
              rw [v1]
              refine R_if_le (q := 23) (tgt := 62) rfl rfl (by decide) (by omega) (fun h20 => ?_) (fun h20 => ?_)
              · refine R_iload_n (q := 63) (i := 1) rfl rfl rfl rfl ?_
                refine R_gets (q := 66) rfl rfl rfl ?_
                refine R_iconst (q := 67) rfl rfl ?_
                refine R_ialdX (q := 68) rfl rfl (by decide) (show (0 : Int) ≤ 0 ∧ (0 : Int) < ((6 : Nat) : Int) by omega) ?_
                rw [x200]
                refine R_icmp_gt (q := 71) (tgt := 75) rfl rfl (by decide) (by omega) (by omega) (fun h68 => ?_) (fun h68 => ?_)
                · omega
                · refine R_iload_n (q := 72) (i := 1) rfl rfl rfl rfl ?_
                  refine R_goto (q := 75) (tgt := 77) rfl rfl (by decide) ?_
                  refine R_ret rfl (Or.inl rfl) ?_
                  exact done _ rfl
              · omega
          · omega
  by_cases a0 : M 12 26 ≤ 0
  · replace l3 := l3 (by omega) (by omega) (by omega) a0 _ rfl
    rw [l3] at done
    refine R_iconst (q := 1) rfl rfl ?_
    refine R_istore_n (q := 2) (i := 1) rfl rfl rfl rfl ?_
    refine R_iconst (q := 3) rfl rfl ?_
    refine R_istore_n (q := 4) (i := 2) rfl rfl rfl rfl ?_
    refine R_iload_n (q := 5) (i := 2) rfl rfl rfl rfl ?_
    refine R_if_lt (q := 8) (tgt := 62) rfl rfl (by decide) (by omega) (fun h5 => ?_) (fun h5 => ?_)
    · omega
    · refine R_aload_n (q := 9) (i := 0) rfl rfl rfl rfl ?_
      refine R_getR (q := 12) rfl rfl rfl rfl rfl (by omega) ?_
      refine R_getR (q := 15) rfl rfl rfl (lay0 st15) rfl (by omega) ?_
      refine R_iload_n (q := 16) (i := 2) rfl rfl rfl rfl ?_
      refine R_aald (q := 17) (r2 := 15 + 5 + 2 * (2 : Int).toNat) rfl rfl (layi st15 rfl) (by omega) (by omega) rfl ?_
      refine R_getI (q := 20) (k1 := 2) rfl rfl rfl (lay_dk (dkI st15 d2)) rfl (by omega) rfl ?_
      rw [v2]
      refine R_if_le (q := 23) (tgt := 62) rfl rfl (by decide) (by omega) (fun h20 => ?_) (fun h20 => ?_)
      · omega
      · refine R_aload_n (q := 24) (i := 0) rfl rfl rfl rfl ?_
        refine R_getR (q := 27) rfl rfl rfl rfl rfl (by omega) ?_
        refine R_iload_n (q := 28) (i := 2) rfl rfl rfl rfl ?_
        refine R_gh (M 12) ?_
        refine R_cV1I (q := 31) (ci := 4) (C := C_X4_greatestDoubtAt) rfl rfl rfl rfl rfl ⟨_, _, rfl, ⟨g.si, d2⟩⟩ rfl (lay0 st15) (by omega) (fun x M' hc => ?_)
        replace hc := hc _ _ rfl
        obtain ⟨hc, rfl⟩ := hc
        have hc : gdD (M 12) 2 = x := hc
        rw [← hg2] at hc
        subst hc
        refine R_un ?_
        refine R_istore_n (q := 32) (i := 3) rfl rfl rfl rfl ?_
        refine R_iload_n (q := 33) (i := 2) rfl rfl rfl rfl ?_
        refine R_iconst (q := 34) rfl rfl ?_
        refine R_icmp_ne (q := 37) (tgt := 44) rfl rfl (by decide) (by omega) (by omega) (fun h34 => ?_) (fun h34 => ?_)
        · omega
        · refine R_iload_n (q := 38) (i := 3) rfl rfl rfl rfl ?_
          refine R_if_le (q := 41) (tgt := 44) rfl rfl (by decide) (by omega) (fun h38 => ?_) (fun h38 => ?_)
          · refine R_iload_n (q := 45) (i := 1) rfl rfl rfl rfl ?_
            refine R_iload_n (q := 46) (i := 3) rfl rfl rfl rfl ?_
            refine R_iconst (q := 47) rfl rfl ?_
            refine R_iadd (q := 48) rfl rfl ?_
            refine R_iconst (q := 49) rfl rfl ?_
            refine R_isub (q := 50) rfl rfl ?_
            refine R_iconst (q := 51) rfl rfl ?_
            refine R_idiv (q := 52) rfl rfl (by omega) ?_
            rw [i32div_of (by omega) (by omega) (by omega) (by omega)]
            refine R_mmax (q := 55) rfl rfl rfl (by omega) (by omega) rfl ?_
            rw [if_neg (by omega)]
            refine R_istore_n (q := 56) (i := 1) rfl rfl rfl rfl ?_
            refine R_iinc (q := 59) rfl rfl rfl rfl ?_
            refine R_goto (q := 62) (tgt := 4) rfl rfl (by decide) ?_
            refine R_iload_n (q := 5) (i := 2) rfl rfl rfl rfl ?_
            refine R_if_lt (q := 8) (tgt := 62) rfl rfl (by decide) (by omega) (fun h5 => ?_) (fun h5 => ?_)
            · omega
            · refine R_aload_n (q := 9) (i := 0) rfl rfl rfl rfl ?_
              refine R_getR (q := 12) rfl rfl rfl rfl rfl (by omega) ?_
              refine R_getR (q := 15) rfl rfl rfl (lay0 st15) rfl (by omega) ?_
              refine R_iload_n (q := 16) (i := 2) rfl rfl rfl rfl ?_
              refine R_aald (q := 17) (r2 := 15 + 5 + 2 * (1 : Int).toNat) rfl rfl (layi st15 rfl) (by omega) (by omega) rfl ?_
              refine R_getI (q := 20) (k1 := 2) rfl rfl rfl (lay_dk (dkI st15 d1)) rfl (by omega) rfl ?_
              rw [v1]
              refine R_if_le (q := 23) (tgt := 62) rfl rfl (by decide) (by omega) (fun h20 => ?_) (fun h20 => ?_)
              · omega
              · refine R_aload_n (q := 24) (i := 0) rfl rfl rfl rfl ?_
                refine R_getR (q := 27) rfl rfl rfl rfl rfl (by omega) ?_
                refine R_iload_n (q := 28) (i := 2) rfl rfl rfl rfl ?_
                refine R_gh (M 12) ?_
                refine R_cV1I (q := 31) (ci := 4) (C := C_X4_greatestDoubtAt) rfl rfl rfl rfl rfl ⟨_, _, rfl, ⟨g.si, d1⟩⟩ rfl (lay0 st15) (by omega) (fun x M' hc => ?_)
                replace hc := hc _ _ rfl
                obtain ⟨hc, rfl⟩ := hc
                have hc : gdD (M 12) 1 = x := hc
                rw [← hg1] at hc
                subst hc
                refine R_un ?_
                refine R_istore_n (q := 32) (i := 3) rfl rfl rfl rfl ?_
                refine R_iload_n (q := 33) (i := 2) rfl rfl rfl rfl ?_
                refine R_iconst (q := 34) rfl rfl ?_
                refine R_icmp_ne (q := 37) (tgt := 44) rfl rfl (by decide) (by omega) (by omega) (fun h34 => ?_) (fun h34 => ?_)
                · refine R_iload_n (q := 45) (i := 1) rfl rfl rfl rfl ?_
                  refine R_iload_n (q := 46) (i := 3) rfl rfl rfl rfl ?_
                  refine R_iconst (q := 47) rfl rfl ?_
                  refine R_iadd (q := 48) rfl rfl ?_
                  refine R_iconst (q := 49) rfl rfl ?_
                  refine R_isub (q := 50) rfl rfl ?_
                  refine R_iconst (q := 51) rfl rfl ?_
                  refine R_idiv (q := 52) rfl rfl (by omega) ?_
                  rw [i32div_of (by omega) (by omega) (by omega) (by omega)]
                  refine R_mmax (q := 55) rfl rfl rfl (by omega) (by omega) rfl ?_
                  generalize hm : (if (0 : Int) < (g1 + 2 - 1) / 2 then (g1 + 2 - 1) / 2 else 0) = m1
                  have em : m1 = (g1 + 1) / 2 := by
                    rw [← hm]
                    split <;> omega
                  refine R_istore_n (q := 56) (i := 1) rfl rfl rfl rfl ?_
                  refine R_iinc (q := 59) rfl rfl rfl rfl ?_
                  refine R_goto (q := 62) (tgt := 4) rfl rfl (by decide) ?_
                  refine R_iload_n (q := 5) (i := 2) rfl rfl rfl rfl ?_
                  refine R_if_lt (q := 8) (tgt := 62) rfl rfl (by decide) (by omega) (fun h5 => ?_) (fun h5 => ?_)
                  · omega
                  · refine R_aload_n (q := 9) (i := 0) rfl rfl rfl rfl ?_
                    refine R_getR (q := 12) rfl rfl rfl rfl rfl (by omega) ?_
                    refine R_getR (q := 15) rfl rfl rfl (lay0 st15) rfl (by omega) ?_
                    refine R_iload_n (q := 16) (i := 2) rfl rfl rfl rfl ?_
                    refine R_aald (q := 17) (r2 := 15 + 5 + 2 * (0 : Int).toNat) rfl rfl (layi st15 rfl) (by omega) (by omega) rfl ?_
                    refine R_getI (q := 20) (k1 := 2) rfl rfl rfl (lay_dk (dkI st15 d0)) rfl (by omega) rfl ?_
                    rw [v0]
                    refine R_if_le (q := 23) (tgt := 62) rfl rfl (by decide) (by omega) (fun h20 => ?_) (fun h20 => ?_)
                    · refine R_iload_n (q := 63) (i := 1) rfl rfl rfl rfl ?_
                      refine R_gets (q := 66) rfl rfl rfl ?_
                      refine R_iconst (q := 67) rfl rfl ?_
                      refine R_ialdX (q := 68) rfl rfl (by decide) (show (0 : Int) ≤ 0 ∧ (0 : Int) < ((6 : Nat) : Int) by omega) ?_
                      rw [x200]
                      refine R_icmp_gt (q := 71) (tgt := 75) rfl rfl (by decide) (by omega) (by omega) (fun h68 => ?_) (fun h68 => ?_)
                      · refine R_bipush (q := 77) rfl rfl (by decide) ?_
                        refine R_ret rfl (Or.inl rfl) ?_
                        first
                        | exact done _ (em.trans (if_pos (by omega)).symm)
                        | exact done _ (if_neg (by omega)).symm
                      · refine R_iload_n (q := 72) (i := 1) rfl rfl rfl rfl ?_
                        refine R_goto (q := 75) (tgt := 77) rfl rfl (by decide) ?_
                        refine R_ret rfl (Or.inl rfl) ?_
                        first
                        | exact done _ (em.trans (if_pos (by omega)).symm)
                        | exact done _ (if_neg (by omega)).symm
                    · omega
                · omega
          · omega
  · have done4 : ∀ m0, (m0 = (g1 + 1) / 2 ∧ (g0 + 1) / 2 ≤ m0 ∨ m0 = (g0 + 1) / 2 ∧ (g1 + 1) / 2 ≤ m0) → ∀ x, x = (if m0 ≤ 200 then m0 else -6) → Bo C_X7_leastSmall [wR 11] M M x := fun m0 em x hx => done x (hx.trans (l4 (by omega) (by omega) (by omega) (by omega) m0 em).symm)
    refine R_iconst (q := 1) rfl rfl ?_
    refine R_istore_n (q := 2) (i := 1) rfl rfl rfl rfl ?_
    refine R_iconst (q := 3) rfl rfl ?_
    refine R_istore_n (q := 4) (i := 2) rfl rfl rfl rfl ?_
    refine R_iload_n (q := 5) (i := 2) rfl rfl rfl rfl ?_
    refine R_if_lt (q := 8) (tgt := 62) rfl rfl (by decide) (by omega) (fun h5 => ?_) (fun h5 => ?_)
    · omega
    · refine R_aload_n (q := 9) (i := 0) rfl rfl rfl rfl ?_
      refine R_getR (q := 12) rfl rfl rfl rfl rfl (by omega) ?_
      refine R_getR (q := 15) rfl rfl rfl (lay0 st15) rfl (by omega) ?_
      refine R_iload_n (q := 16) (i := 2) rfl rfl rfl rfl ?_
      refine R_aald (q := 17) (r2 := 15 + 5 + 2 * (2 : Int).toNat) rfl rfl (layi st15 rfl) (by omega) (by omega) rfl ?_
      refine R_getI (q := 20) (k1 := 2) rfl rfl rfl (lay_dk (dkI st15 d2)) rfl (by omega) rfl ?_
      rw [v2]
      refine R_if_le (q := 23) (tgt := 62) rfl rfl (by decide) (by omega) (fun h20 => ?_) (fun h20 => ?_)
      · omega
      · refine R_aload_n (q := 24) (i := 0) rfl rfl rfl rfl ?_
        refine R_getR (q := 27) rfl rfl rfl rfl rfl (by omega) ?_
        refine R_iload_n (q := 28) (i := 2) rfl rfl rfl rfl ?_
        refine R_gh (M 12) ?_
        refine R_cV1I (q := 31) (ci := 4) (C := C_X4_greatestDoubtAt) rfl rfl rfl rfl rfl ⟨_, _, rfl, ⟨g.si, d2⟩⟩ rfl (lay0 st15) (by omega) (fun x M' hc => ?_)
        replace hc := hc _ _ rfl
        obtain ⟨hc, rfl⟩ := hc
        have hc : gdD (M 12) 2 = x := hc
        rw [← hg2] at hc
        subst hc
        refine R_un ?_
        refine R_istore_n (q := 32) (i := 3) rfl rfl rfl rfl ?_
        refine R_iload_n (q := 33) (i := 2) rfl rfl rfl rfl ?_
        refine R_iconst (q := 34) rfl rfl ?_
        refine R_icmp_ne (q := 37) (tgt := 44) rfl rfl (by decide) (by omega) (by omega) (fun h34 => ?_) (fun h34 => ?_)
        · omega
        · refine R_iload_n (q := 38) (i := 3) rfl rfl rfl rfl ?_
          refine R_if_le (q := 41) (tgt := 44) rfl rfl (by decide) (by omega) (fun h38 => ?_) (fun h38 => ?_)
          · refine R_iload_n (q := 45) (i := 1) rfl rfl rfl rfl ?_
            refine R_iload_n (q := 46) (i := 3) rfl rfl rfl rfl ?_
            refine R_iconst (q := 47) rfl rfl ?_
            refine R_iadd (q := 48) rfl rfl ?_
            refine R_iconst (q := 49) rfl rfl ?_
            refine R_isub (q := 50) rfl rfl ?_
            refine R_iconst (q := 51) rfl rfl ?_
            refine R_idiv (q := 52) rfl rfl (by omega) ?_
            rw [i32div_of (by omega) (by omega) (by omega) (by omega)]
            refine R_mmax (q := 55) rfl rfl rfl (by omega) (by omega) rfl ?_
            rw [if_neg (by omega)]
            refine R_istore_n (q := 56) (i := 1) rfl rfl rfl rfl ?_
            refine R_iinc (q := 59) rfl rfl rfl rfl ?_
            refine R_goto (q := 62) (tgt := 4) rfl rfl (by decide) ?_
            refine R_iload_n (q := 5) (i := 2) rfl rfl rfl rfl ?_
            refine R_if_lt (q := 8) (tgt := 62) rfl rfl (by decide) (by omega) (fun h5 => ?_) (fun h5 => ?_)
            · omega
            · refine R_aload_n (q := 9) (i := 0) rfl rfl rfl rfl ?_
              refine R_getR (q := 12) rfl rfl rfl rfl rfl (by omega) ?_
              refine R_getR (q := 15) rfl rfl rfl (lay0 st15) rfl (by omega) ?_
              refine R_iload_n (q := 16) (i := 2) rfl rfl rfl rfl ?_
              refine R_aald (q := 17) (r2 := 15 + 5 + 2 * (1 : Int).toNat) rfl rfl (layi st15 rfl) (by omega) (by omega) rfl ?_
              refine R_getI (q := 20) (k1 := 2) rfl rfl rfl (lay_dk (dkI st15 d1)) rfl (by omega) rfl ?_
              rw [v1]
              refine R_if_le (q := 23) (tgt := 62) rfl rfl (by decide) (by omega) (fun h20 => ?_) (fun h20 => ?_)
              · omega
              · refine R_aload_n (q := 24) (i := 0) rfl rfl rfl rfl ?_
                refine R_getR (q := 27) rfl rfl rfl rfl rfl (by omega) ?_
                refine R_iload_n (q := 28) (i := 2) rfl rfl rfl rfl ?_
                refine R_gh (M 12) ?_
                refine R_cV1I (q := 31) (ci := 4) (C := C_X4_greatestDoubtAt) rfl rfl rfl rfl rfl ⟨_, _, rfl, ⟨g.si, d1⟩⟩ rfl (lay0 st15) (by omega) (fun x M' hc => ?_)
                replace hc := hc _ _ rfl
                obtain ⟨hc, rfl⟩ := hc
                have hc : gdD (M 12) 1 = x := hc
                rw [← hg1] at hc
                subst hc
                refine R_un ?_
                refine R_istore_n (q := 32) (i := 3) rfl rfl rfl rfl ?_
                refine R_iload_n (q := 33) (i := 2) rfl rfl rfl rfl ?_
                refine R_iconst (q := 34) rfl rfl ?_
                refine R_icmp_ne (q := 37) (tgt := 44) rfl rfl (by decide) (by omega) (by omega) (fun h34 => ?_) (fun h34 => ?_)
                · refine R_iload_n (q := 45) (i := 1) rfl rfl rfl rfl ?_
                  refine R_iload_n (q := 46) (i := 3) rfl rfl rfl rfl ?_
                  refine R_iconst (q := 47) rfl rfl ?_
                  refine R_iadd (q := 48) rfl rfl ?_
                  refine R_iconst (q := 49) rfl rfl ?_
                  refine R_isub (q := 50) rfl rfl ?_
                  refine R_iconst (q := 51) rfl rfl ?_
                  refine R_idiv (q := 52) rfl rfl (by omega) ?_
                  rw [i32div_of (by omega) (by omega) (by omega) (by omega)]
                  refine R_mmax (q := 55) rfl rfl rfl (by omega) (by omega) rfl ?_
                  generalize hm : (if (0 : Int) < (g1 + 2 - 1) / 2 then (g1 + 2 - 1) / 2 else 0) = m1
                  have em : m1 = (g1 + 1) / 2 := by
                    rw [← hm]
                    split <;> omega
                  refine R_istore_n (q := 56) (i := 1) rfl rfl rfl rfl ?_
                  refine R_iinc (q := 59) rfl rfl rfl rfl ?_
                  refine R_goto (q := 62) (tgt := 4) rfl rfl (by decide) ?_
                  refine R_iload_n (q := 5) (i := 2) rfl rfl rfl rfl ?_
                  refine R_if_lt (q := 8) (tgt := 62) rfl rfl (by decide) (by omega) (fun h5 => ?_) (fun h5 => ?_)
                  · omega
                  · refine R_aload_n (q := 9) (i := 0) rfl rfl rfl rfl ?_
                    refine R_getR (q := 12) rfl rfl rfl rfl rfl (by omega) ?_
                    refine R_getR (q := 15) rfl rfl rfl (lay0 st15) rfl (by omega) ?_
                    refine R_iload_n (q := 16) (i := 2) rfl rfl rfl rfl ?_
                    refine R_aald (q := 17) (r2 := 15 + 5 + 2 * (0 : Int).toNat) rfl rfl (layi st15 rfl) (by omega) (by omega) rfl ?_
                    refine R_getI (q := 20) (k1 := 2) rfl rfl rfl (lay_dk (dkI st15 d0)) rfl (by omega) rfl ?_
                    rw [v0]
                    refine R_if_le (q := 23) (tgt := 62) rfl rfl (by decide) (by omega) (fun h20 => ?_) (fun h20 => ?_)
                    · omega
                    · refine R_aload_n (q := 24) (i := 0) rfl rfl rfl rfl ?_
                      refine R_getR (q := 27) rfl rfl rfl rfl rfl (by omega) ?_
                      refine R_iload_n (q := 28) (i := 2) rfl rfl rfl rfl ?_
                      refine R_gh (M 12) ?_
                      refine R_cV1I (q := 31) (ci := 4) (C := C_X4_greatestDoubtAt) rfl rfl rfl rfl rfl ⟨_, _, rfl, ⟨g.si, d0⟩⟩ rfl (lay0 st15) (by omega) (fun x M' hc => ?_)
                      replace hc := hc _ _ rfl
                      obtain ⟨hc, rfl⟩ := hc
                      have hc : gdD (M 12) 0 = x := hc
                      rw [← hg0] at hc
                      subst hc
                      refine R_un ?_
                      refine R_istore_n (q := 32) (i := 3) rfl rfl rfl rfl ?_
                      refine R_iload_n (q := 33) (i := 2) rfl rfl rfl rfl ?_
                      refine R_iconst (q := 34) rfl rfl ?_
                      refine R_icmp_ne (q := 37) (tgt := 44) rfl rfl (by decide) (by omega) (by omega) (fun h34 => ?_) (fun h34 => ?_)
                      · refine R_iload_n (q := 45) (i := 1) rfl rfl rfl rfl ?_
                        refine R_iload_n (q := 46) (i := 3) rfl rfl rfl rfl ?_
                        refine R_iconst (q := 47) rfl rfl ?_
                        refine R_iadd (q := 48) rfl rfl ?_
                        refine R_iconst (q := 49) rfl rfl ?_
                        refine R_isub (q := 50) rfl rfl ?_
                        refine R_iconst (q := 51) rfl rfl ?_
                        refine R_idiv (q := 52) rfl rfl (by omega) ?_
                        rw [i32div_of (by omega) (by omega) (by omega) (by omega)]
                        refine R_mmax (q := 55) rfl rfl rfl (by omega) (by omega) rfl ?_
                        generalize hm0 : (if m1 < (g0 + 2 - 1) / 2 then (g0 + 2 - 1) / 2 else m1) = m0
                        have em0 : m0 = (g1 + 1) / 2 ∧ (g0 + 1) / 2 ≤ m0 ∨ m0 = (g0 + 1) / 2 ∧ (g1 + 1) / 2 ≤ m0 := by
                          rw [← hm0]
                          split <;> omega
                        refine R_istore_n (q := 56) (i := 1) rfl rfl rfl rfl ?_
                        refine R_iinc (q := 59) rfl rfl rfl rfl ?_
                        refine R_goto (q := 62) (tgt := 4) rfl rfl (by decide) ?_
                        refine R_iload_n (q := 5) (i := 2) rfl rfl rfl rfl ?_
                        refine R_if_lt (q := 8) (tgt := 62) rfl rfl (by decide) (by omega) (fun h5 => ?_) (fun h5 => ?_)
                        · refine R_iload_n (q := 63) (i := 1) rfl rfl rfl rfl ?_
                          refine R_gets (q := 66) rfl rfl rfl ?_
                          refine R_iconst (q := 67) rfl rfl ?_
                          refine R_ialdX (q := 68) rfl rfl (by decide) (show (0 : Int) ≤ 0 ∧ (0 : Int) < ((6 : Nat) : Int) by omega) ?_
                          rw [x200]
                          refine R_icmp_gt (q := 71) (tgt := 75) rfl rfl (by decide) (by omega) (by omega) (fun h68 => ?_) (fun h68 => ?_)
                          · refine R_bipush (q := 77) rfl rfl (by decide) ?_
                            refine R_ret rfl (Or.inl rfl) ?_
                            first
                            | exact done4 _ em0 _ (if_pos (by omega)).symm
                            | exact done4 _ em0 _ (if_neg (by omega)).symm
                          · refine R_iload_n (q := 72) (i := 1) rfl rfl rfl rfl ?_
                            refine R_goto (q := 75) (tgt := 77) rfl rfl (by decide) ?_
                            refine R_ret rfl (Or.inl rfl) ?_
                            first
                            | exact done4 _ em0 _ (if_pos (by omega)).symm
                            | exact done4 _ em0 _ (if_neg (by omega)).symm
                        · omega
                      · omega
                · omega
          · omega
set_option maxRecDepth 100000 in
theorem mt_X6_leastSmall : MtOK yX6_leastSmall cX6_leastSmall 4 (some .int) 4 C_X6_leastSmall := by
  refine mt_of sx_X6_leastSmall (by decide +kernel) (Or.inl ⟨rfl, rfl, rfl⟩) (by decide +kernel) fdX6_ok kLX6_ok kIX6_ok sgX6_ok ntX6_ok
    (all_cons (clokV mt_X4_greatestDoubtAt rfl (GT_at 528 (by decide +kernel) (by decide +kernel)) (GT_at 12 (by decide +kernel) (by decide +kernel)) (GT_at 531 (by decide +kernel) (by decide +kernel)) (by decide +kernel) (by decide) (GT_at 529 (by decide +kernel) (by decide +kernel)) (GT_at 530 (by decide +kernel) (by decide +kernel)) rfl rfl) (all_nil)) ?_ ?_
  · rintro as M - ⟨o, rfl, hp⟩
    exact Nat.le_of_ble_eq_true rfl
  · rintro L scr as M - ⟨o, rfl, hp⟩
    exact Runs.mono (fun x M' h _ e => by cases e; exact h) (ok_X6_leastSmall L scr o M hp)
