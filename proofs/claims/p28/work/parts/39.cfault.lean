abbrev cN (M : Mem) : Int := M 8 1
abbrev fdO (M M' : Mem) : Prop := M' 8 2 = M 9 0 - 48 ∧ M' 10 0 = nib (r1 (M 9) (M 8 1)).2.2 ∧ M' 10 1 = nib (r2 (M 9) (M 8 1)).2.2 ∧ M' 10 2 = nib (pTr (M 9) (M 8 1))
abbrev C_X2_findFault : Ct := (1, true, fun as M => ∃ (o : Nat), as = [wR o] ∧ (o = 8 ∧ PdC M), fun as M x M' => ∀ (o : Nat), as = [wR o] → (x = flt (M 9) (M 8 1) ∧ SpK M M' ∧ (x = -6 → fdO M M')))
def sx_X2_findFault : Sx := (tb_X2_findFault, fdX2, kLX2, kIX2, sgX2, ntX2, [(26, (2, C_X2_isNext)), (33, (2, C_X2_skips)), (37, (2, C_X2_readPaper))], 1)
set_option maxRecDepth 100000 in
set_option maxHeartbeats 1000000 in
theorem ok_X2_findFault (L : Nat) (scr : Int → Int) (o : Nat) (M : Mem) (hp : o = 8 ∧ PdC M) : Runs sx_X2_findFault L (xcF scr) (fun x M' => x = flt (M 9) (M 8 1) ∧ SpK M M' ∧ (x = -6 → fdO M M')) 0 [wR o] [] M := by
  obtain ⟨rfl, pd⟩ := hp
  have p60 := pd.1
  have S0 : SpK M (upM M 8 4 0) := SpK.u4
  have s0 : upM M 8 4 0 8 4 = 0 := upM_s
  have t0 := S0.1 1 (by omega) (by omega)
  have e0 := S0.2 9 (by omega) (by omega)
  unfold flt
  refine R_aload_n (q := 1) (i := 0) rfl rfl rfl rfl ?_
  refine R_iconst (q := 2) rfl rfl ?_
  refine R_putI (q := 5) (k1 := 4) rfl rfl rfl rfl rfl (by omega) rfl rfl rfl rfl ?_
  generalize upM M 8 4 0 = N0 at S0 s0 t0 e0 ⊢
  refine R_aload_n (q := 6) (i := 0) rfl rfl rfl rfl ?_
  refine R_bipush (q := 8) rfl rfl (by decide) ?_
  refine R_bipush (q := 10) rfl rfl (by decide) ?_
  refine R_cV2I (q := 13) (ci := 2) (C := C_X2_isNext) rfl rfl rfl rfl rfl ⟨_, _, _, rfl, ⟨rfl, S0.pd pd, by omega, by omega, by omega⟩⟩ rfl rfl (by omega) (fun x M' hc => ?_)
  replace hc := hc _ _ _ rfl
  obtain ⟨hc, rfl⟩ := hc
  unfold isN at hc
  rw [s0, t0, e0] at hc
  refine R_if_ne (q := 16) (tgt := 21) rfl rfl (by decide) (by omega) (fun h13 => ?_) (fun h13 => ?_)
  · have HA : 0 < M 8 1 ∧ 48 ≤ M 9 0 ∧ M 9 0 ≤ 52 := by omega
    rw [if_neg (not_not_intro HA)]
    clear hc
    refine R_aload_n (q := 22) (i := 0) rfl rfl rfl rfl ?_
    refine R_aload_n (q := 23) (i := 0) rfl rfl rfl rfl ?_
    refine R_getR (q := 26) rfl rfl rfl rfl rfl (by omega) ?_
    refine R_aload_n (q := 27) (i := 0) rfl rfl rfl rfl ?_
    refine R_getI (q := 30) (k1 := 4) rfl rfl rfl rfl rfl (by omega) rfl ?_
    refine R_cald (q := 31) (v := M 9 0) rfl rfl rfl (by omega) (by rw [s0]; omega) (by rw [s0, e0]) ?_
    refine R_bipush (q := 33) rfl rfl (by decide) ?_
    refine R_isub (q := 34) rfl rfl ?_
    refine R_putI (q := 37) (k1 := 2) rfl rfl rfl rfl rfl (by omega) rfl rfl rfl rfl ?_
    refine R_aload_n (q := 38) (i := 0) rfl rfl rfl rfl ?_
    refine R_dup (q := 39) rfl rfl rfl ?_
    refine R_getI (q := 42) (k1 := 4) rfl rfl rfl rfl rfl (by omega) rfl ?_
    refine R_iconst (q := 43) rfl rfl ?_
    refine R_iadd (q := 44) rfl rfl ?_
    refine R_putI (q := 47) (k1 := 4) rfl rfl rfl rfl rfl (by omega) rfl rfl rfl rfl ?_
    have S1 : SpK M (upM (upM N0 8 2 (M 9 0 - 48)) 8 4 (upM N0 8 2 (M 9 0 - 48) 8 4 + 1)) := (S0.tr SpK.u2).tr SpK.u4
    have s1 : upM (upM N0 8 2 (M 9 0 - 48)) 8 4 (upM N0 8 2 (M 9 0 - 48) 8 4 + 1) 8 4 = 1 := by rw [upM_s, upM_k (by omega), s0]; rfl
    have k1 : upM (upM N0 8 2 (M 9 0 - 48)) 8 4 (upM N0 8 2 (M 9 0 - 48) 8 4 + 1) 8 2 = M 9 0 - 48 := by rw [upM_k (by omega), upM_s]
    generalize upM (upM N0 8 2 (M 9 0 - 48)) 8 4 (upM N0 8 2 (M 9 0 - 48) 8 4 + 1) = N1 at S1 s1 k1 ⊢
    have t1 := S1.1 1 (by omega) (by omega)
    have e1 := S1.2 9 (by omega) (by omega)
    refine R_aload_n (q := 48) (i := 0) rfl rfl rfl rfl ?_
    refine R_bipush (q := 50) rfl rfl (by decide) ?_
    refine R_cV1I (q := 53) (ci := 2) (C := C_X2_skips) rfl rfl rfl rfl rfl ⟨_, _, rfl, ⟨rfl, S1.pd pd, by omega, by omega⟩⟩ rfl rfl (by omega) (fun x M' hc => ?_)
    replace hc := hc _ _ rfl
    obtain ⟨hc, rfl⟩ := hc
    rw [s1, t1, e1] at hc
    rw [s1]
    have s2 : upM N1 8 4 (1 + x) 8 4 = 1 + x := upM_s
    have S2 : SpK M (upM N1 8 4 (1 + x)) := S1.tr SpK.u4
    have k2 : upM N1 8 4 (1 + x) 8 2 = M 9 0 - 48 := by rw [upM_k (by omega), k1]
    generalize upM N1 8 4 (1 + x) = N2 at S2 s2 k2 ⊢
    have t2 := S2.1 1 (by omega) (by omega)
    have e2 := S2.2 9 (by omega) (by omega)
    refine R_if_eq (q := 56) (tgt := 81) rfl rfl (by decide) (by omega) (fun h53 => ?_) (fun h53 => ?_)
    · have HB : ¬ (1 < M 8 1 ∧ M 9 1 = 58) := by omega
      rw [if_pos HB]
      refine R_aload_n (q := 82) (i := 0) rfl rfl rfl rfl ?_
      refine R_getI (q := 85) (k1 := 4) rfl rfl rfl rfl rfl (by omega) rfl ?_
      refine R_ret rfl (Or.inl rfl) ?_
      first
      | exact ⟨s5, S5, fun z => by omega⟩
      | exact ⟨s4.trans (by omega), S4, fun z => by omega⟩
      | exact ⟨s3, S3, fun z => by omega⟩
      | exact ⟨s2.trans (by omega), S2, fun z => by omega⟩
    · have HB : 1 < M 8 1 ∧ M 9 1 = 58 := by omega
      rw [if_neg (not_not_intro HB)]
      have s2 : N2 8 4 = 2 := by omega
      have b1 := rdp_bd (c := M 9) (n := M 8 1) 6 2 97 0 (by omega)
      rw [r1_eq] at b1
      clear hc
      refine R_aload_n (q := 57) (i := 0) rfl rfl rfl rfl ?_
      refine R_iconst (q := 58) rfl rfl ?_
      refine R_cV1I (q := 61) (ci := 2) (C := C_X2_readPaper) rfl rfl rfl rfl rfl ⟨_, _, rfl, ⟨rfl, S2.pd pd, by omega, by omega⟩⟩ rfl rfl (by omega) (fun x M' hc => ?_)
      replace hc := hc _ _ rfl
      unfold rpO at hc
      rw [s2, t2, e2, r1_eq] at hc
      have S3 : SpK M M' := by
        rcases hc with ⟨-, -, h⟩ | ⟨-, -, h⟩
        · rw [h]; exact (S2.tr SpK.u4).tr SpK.up
        · rw [h]; exact S2.tr SpK.u4
      have s3 : M' 8 4 = (r1 (M 9) (M 8 1)).2.1 := by
        rcases hc with ⟨-, -, h⟩ | ⟨-, -, h⟩
        · rw [h, congrFun (upM_r (by omega)) 4, upM_s]
        · rw [h, upM_s]
      have k3 : M' 8 2 = M 9 0 - 48 := by
        rcases hc with ⟨-, -, h⟩ | ⟨-, -, h⟩
        · rw [h, congrFun (upM_r (by omega)) 2, upM_k (by omega), k2]
        · rw [h, upM_k (by omega), k2]
      have a3 : x = 1 → M' 10 0 = nib (r1 (M 9) (M 8 1)).2.2 := fun z => by
        rcases hc with ⟨-, -, h⟩ | ⟨h0, -, -⟩
        · rw [h, upM_s]
        · omega
      have hx : (x = 1 ∧ (r1 (M 9) (M 8 1)).1 = 1) ∨ (x = 0 ∧ (r1 (M 9) (M 8 1)).1 = 0) := hc.elim (fun z => Or.inl ⟨z.1, z.2.1⟩) (fun z => Or.inr ⟨z.1, z.2.1⟩)
      clear hc
      generalize M' = N3 at *
      have t3 := S3.1 1 (by omega) (by omega)
      have e3 := S3.2 9 (by omega) (by omega)
      refine R_if_eq (q := 64) (tgt := 81) rfl rfl (by decide) (by omega) (fun h61 => ?_) (fun h61 => ?_)
      · have HR : (r1 (M 9) (M 8 1)).1 = 0 := by omega
        rw [if_pos HR]
        refine R_aload_n (q := 82) (i := 0) rfl rfl rfl rfl ?_
        refine R_getI (q := 85) (k1 := 4) rfl rfl rfl rfl rfl (by omega) rfl ?_
        refine R_ret rfl (Or.inl rfl) ?_
        first
        | exact ⟨s5, S5, fun z => by omega⟩
        | exact ⟨s4.trans (by omega), S4, fun z => by omega⟩
        | exact ⟨s3, S3, fun z => by omega⟩
        | exact ⟨s2.trans (by omega), S2, fun z => by omega⟩
      · have HR : ¬ (r1 (M 9) (M 8 1)).1 = 0 := by omega
        rw [if_neg HR]
        have a3 := a3 (by omega)
        clear hx
        refine R_aload_n (q := 65) (i := 0) rfl rfl rfl rfl ?_
        refine R_bipush (q := 67) rfl rfl (by decide) ?_
        refine R_cV1I (q := 70) (ci := 2) (C := C_X2_skips) rfl rfl rfl rfl rfl ⟨_, _, rfl, ⟨rfl, S3.pd pd, by omega, by omega⟩⟩ rfl rfl (by omega) (fun x M' hc => ?_)
        replace hc := hc _ _ rfl
        obtain ⟨hc, rfl⟩ := hc
        rw [s3, t3, e3] at hc
        rw [s3]
        have s4 : upM N3 8 4 ((r1 (M 9) (M 8 1)).2.1 + x) 8 4 = (r1 (M 9) (M 8 1)).2.1 + x := upM_s
        have S4 : SpK M (upM N3 8 4 ((r1 (M 9) (M 8 1)).2.1 + x)) := S3.tr SpK.u4
        have k4 : upM N3 8 4 ((r1 (M 9) (M 8 1)).2.1 + x) 8 2 = M 9 0 - 48 := by rw [upM_k (by omega), k3]
        have a4 : upM N3 8 4 ((r1 (M 9) (M 8 1)).2.1 + x) 10 0 = nib (r1 (M 9) (M 8 1)).2.2 := by rw [congrFun (upM_r (by omega)) 0, a3]
        generalize upM N3 8 4 ((r1 (M 9) (M 8 1)).2.1 + x) = N4 at *
        have t4 := S4.1 1 (by omega) (by omega)
        have e4 := S4.2 9 (by omega) (by omega)
        refine R_if_eq (q := 73) (tgt := 81) rfl rfl (by decide) (by omega) (fun h70 => ?_) (fun h70 => ?_)
        · have HC : ¬ ((r1 (M 9) (M 8 1)).2.1 < M 8 1 ∧ M 9 (r1 (M 9) (M 8 1)).2.1 = 47) := by omega
          rw [if_pos HC]
          refine R_aload_n (q := 82) (i := 0) rfl rfl rfl rfl ?_
          refine R_getI (q := 85) (k1 := 4) rfl rfl rfl rfl rfl (by omega) rfl ?_
          refine R_ret rfl (Or.inl rfl) ?_
          first
          | exact ⟨s5, S5, fun z => by omega⟩
          | exact ⟨s4.trans (by omega), S4, fun z => by omega⟩
          | exact ⟨s3, S3, fun z => by omega⟩
          | exact ⟨s2.trans (by omega), S2, fun z => by omega⟩
        · have HC : (r1 (M 9) (M 8 1)).2.1 < M 8 1 ∧ M 9 (r1 (M 9) (M 8 1)).2.1 = 47 := by omega
          rw [if_neg (not_not_intro HC)]
          have s4 : N4 8 4 = (r1 (M 9) (M 8 1)).2.1 + 1 := by omega
          have b2 := rdp_bd (c := M 9) (n := M 8 1) 6 ((r1 (M 9) (M 8 1)).2.1 + 1) 97 0 (by omega)
          rw [r2_eq] at b2
          clear hc
          refine R_aload_n (q := 74) (i := 0) rfl rfl rfl rfl ?_
          refine R_iconst (q := 75) rfl rfl ?_
          refine R_cV1I (q := 78) (ci := 2) (C := C_X2_readPaper) rfl rfl rfl rfl rfl ⟨_, _, rfl, ⟨rfl, S4.pd pd, by omega, by omega⟩⟩ rfl rfl (by omega) (fun x M' hc => ?_)
          replace hc := hc _ _ rfl
          unfold rpO at hc
          rw [s4, t4, e4, r2_eq] at hc
          have S5 : SpK M M' := by
            rcases hc with ⟨-, -, h⟩ | ⟨-, -, h⟩
            · rw [h]; exact (S4.tr SpK.u4).tr SpK.up
            · rw [h]; exact S4.tr SpK.u4
          have s5 : M' 8 4 = (r2 (M 9) (M 8 1)).2.1 := by
            rcases hc with ⟨-, -, h⟩ | ⟨-, -, h⟩
            · rw [h, congrFun (upM_r (by omega)) 4, upM_s]
            · rw [h, upM_s]
          have k5 : M' 8 2 = M 9 0 - 48 := by
            rcases hc with ⟨-, -, h⟩ | ⟨-, -, h⟩
            · rw [h, congrFun (upM_r (by omega)) 2, upM_k (by omega), k4]
            · rw [h, upM_k (by omega), k4]
          have a5 : M' 10 0 = nib (r1 (M 9) (M 8 1)).2.2 := by
            rcases hc with ⟨-, -, h⟩ | ⟨-, -, h⟩
            · rw [h, upM_k (by omega), congrFun (upM_r (by omega)) 0, a4]
            · rw [h, congrFun (upM_r (by omega)) 0, a4]
          have b5 : x = 1 → M' 10 1 = nib (r2 (M 9) (M 8 1)).2.2 := fun z => by
            rcases hc with ⟨-, -, h⟩ | ⟨h0, -, -⟩
            · rw [h, upM_s]
            · omega
          have hx : (x = 1 ∧ (r2 (M 9) (M 8 1)).1 = 1) ∨ (x = 0 ∧ (r2 (M 9) (M 8 1)).1 = 0) := hc.elim (fun z => Or.inl ⟨z.1, z.2.1⟩) (fun z => Or.inr ⟨z.1, z.2.1⟩)
          clear hc
          generalize M' = N5 at *
          have t5 := S5.1 1 (by omega) (by omega)
          have e5 := S5.2 9 (by omega) (by omega)
          refine R_if_ne (q := 81) (tgt := 86) rfl rfl (by decide) (by omega) (fun h78 => ?_) (fun h78 => ?_)
          · have HS : ¬ (r2 (M 9) (M 8 1)).1 = 0 := by omega
            rw [if_neg HS]
            have b5 := b5 (by omega)
            clear hx
            refine R_aload_n (q := 87) (i := 0) rfl rfl rfl rfl ?_
            refine R_getI (q := 90) (k1 := 4) rfl rfl rfl rfl rfl (by omega) rfl ?_
            refine R_aload_n (q := 91) (i := 0) rfl rfl rfl rfl ?_
            refine R_getI (q := 94) (k1 := 1) rfl rfl rfl rfl rfl (by omega) rfl ?_
            refine R_icmp_ne (q := 97) (tgt := 112) rfl rfl (by decide) (by omega) (by omega) (fun h94 => ?_) (fun h94 => ?_)
            · have HE : ¬ (r2 (M 9) (M 8 1)).2.1 = M 8 1 := by omega
              refine R_aload_n (q := 113) (i := 0) rfl rfl rfl rfl ?_
              refine R_bipush (q := 115) rfl rfl (by decide) ?_
              refine R_cV1I (q := 118) (ci := 2) (C := C_X2_skips) rfl rfl rfl rfl rfl ⟨_, _, rfl, ⟨rfl, S5.pd pd, by omega, by omega⟩⟩ rfl rfl (by omega) (fun x M' hc => ?_)
              replace hc := hc _ _ rfl
              obtain ⟨hc, rfl⟩ := hc
              rw [s5, t5, e5] at hc
              rw [s5]
              have s6 : upM N5 8 4 ((r2 (M 9) (M 8 1)).2.1 + x) 8 4 = (r2 (M 9) (M 8 1)).2.1 + x := upM_s
              have S6 : SpK M (upM N5 8 4 ((r2 (M 9) (M 8 1)).2.1 + x)) := S5.tr SpK.u4
              have k6' : upM N5 8 4 ((r2 (M 9) (M 8 1)).2.1 + x) 8 2 = M 9 0 - 48 := by rw [upM_k (by omega), k5]
              have a6 : upM N5 8 4 ((r2 (M 9) (M 8 1)).2.1 + x) 10 0 = nib (r1 (M 9) (M 8 1)).2.2 := by rw [congrFun (upM_r (by omega)) 0, a5]
              have b6 : upM N5 8 4 ((r2 (M 9) (M 8 1)).2.1 + x) 10 1 = nib (r2 (M 9) (M 8 1)).2.2 := by rw [congrFun (upM_r (by omega)) 1, b5]
              generalize upM N5 8 4 ((r2 (M 9) (M 8 1)).2.1 + x) = N6 at *
              have t6 := S6.1 1 (by omega) (by omega)
              have e6 := S6.2 9 (by omega) (by omega)
              refine R_if_eq (q := 121) (tgt := 140) rfl rfl (by decide) (by omega) (fun h118 => ?_) (fun h118 => ?_)
              · have HF : ¬ ((r2 (M 9) (M 8 1)).2.1 < M 8 1 ∧ M 9 (r2 (M 9) (M 8 1)).2.1 = 61) := by omega
                rw [if_neg HF, if_neg HE]
                refine R_aload_n (q := 141) (i := 0) rfl rfl rfl rfl ?_
                refine R_getI (q := 144) (k1 := 4) rfl rfl rfl rfl rfl (by omega) rfl ?_
                refine R_ret rfl (Or.inl rfl) ?_
                first
                | exact ⟨s7, S7, fun z => by omega⟩
                | exact ⟨s6.trans (by omega), S6, fun z => by omega⟩
              · have HF : (r2 (M 9) (M 8 1)).2.1 < M 8 1 ∧ M 9 (r2 (M 9) (M 8 1)).2.1 = 61 := by omega
                rw [if_pos HF]
                have s6 : N6 8 4 = (r2 (M 9) (M 8 1)).2.1 + 1 := by omega
                have b3 := rdp_bd (c := M 9) (n := M 8 1) 6 ((r2 (M 9) (M 8 1)).2.1 + 1) 97 0 (by omega)
                rw [r3_eq] at b3
                clear hc
                refine R_aload_n (q := 122) (i := 0) rfl rfl rfl rfl ?_
                refine R_iconst (q := 123) rfl rfl ?_
                refine R_cV1I (q := 126) (ci := 2) (C := C_X2_readPaper) rfl rfl rfl rfl rfl ⟨_, _, rfl, ⟨rfl, S6.pd pd, by omega, by omega⟩⟩ rfl rfl (by omega) (fun x M' hc => ?_)
                replace hc := hc _ _ rfl
                unfold rpO at hc
                rw [s6, t6, e6, r3_eq] at hc
                have S7 : SpK M M' := by
                  rcases hc with ⟨-, -, h⟩ | ⟨-, -, h⟩
                  · rw [h]; exact (S6.tr SpK.u4).tr SpK.up
                  · rw [h]; exact S6.tr SpK.u4
                have s7 : M' 8 4 = (r3 (M 9) (M 8 1)).2.1 := by
                  rcases hc with ⟨-, -, h⟩ | ⟨-, -, h⟩
                  · rw [h, congrFun (upM_r (by omega)) 4, upM_s]
                  · rw [h, upM_s]
                have k7 : M' 8 2 = M 9 0 - 48 := by
                  rcases hc with ⟨-, -, h⟩ | ⟨-, -, h⟩
                  · rw [h, congrFun (upM_r (by omega)) 2, upM_k (by omega), k6']
                  · rw [h, upM_k (by omega), k6']
                have a7 : M' 10 0 = nib (r1 (M 9) (M 8 1)).2.2 := by
                  rcases hc with ⟨-, -, h⟩ | ⟨-, -, h⟩
                  · rw [h, upM_k (by omega), congrFun (upM_r (by omega)) 0, a6]
                  · rw [h, congrFun (upM_r (by omega)) 0, a6]
                have b7 : M' 10 1 = nib (r2 (M 9) (M 8 1)).2.2 := by
                  rcases hc with ⟨-, -, h⟩ | ⟨-, -, h⟩
                  · rw [h, upM_k (by omega), congrFun (upM_r (by omega)) 1, b6]
                  · rw [h, congrFun (upM_r (by omega)) 1, b6]
                have c7 : x = 1 → M' 10 2 = nib (r3 (M 9) (M 8 1)).2.2 := fun z => by
                  rcases hc with ⟨-, -, h⟩ | ⟨h0, -, -⟩
                  · rw [h, upM_s]
                  · omega
                have hx : (x = 1 ∧ (r3 (M 9) (M 8 1)).1 = 1) ∨ (x = 0 ∧ (r3 (M 9) (M 8 1)).1 = 0) := hc.elim (fun z => Or.inl ⟨z.1, z.2.1⟩) (fun z => Or.inr ⟨z.1, z.2.1⟩)
                clear hc
                generalize M' = N7 at *
                have t7 := S7.1 1 (by omega) (by omega)
                have e7 := S7.2 9 (by omega) (by omega)
                refine R_if_eq (q := 129) (tgt := 140) rfl rfl (by decide) (by omega) (fun h126 => ?_) (fun h126 => ?_)
                · have HT : (r3 (M 9) (M 8 1)).1 = 0 := by omega
                  rw [if_pos HT]
                  refine R_aload_n (q := 141) (i := 0) rfl rfl rfl rfl ?_
                  refine R_getI (q := 144) (k1 := 4) rfl rfl rfl rfl rfl (by omega) rfl ?_
                  refine R_ret rfl (Or.inl rfl) ?_
                  first
                  | exact ⟨s7, S7, fun z => by omega⟩
                  | exact ⟨s6.trans (by omega), S6, fun z => by omega⟩
                · have HT : ¬ (r3 (M 9) (M 8 1)).1 = 0 := by omega
                  rw [if_neg HT]
                  have c7 := c7 (by omega)
                  clear hx
                  refine R_aload_n (q := 130) (i := 0) rfl rfl rfl rfl ?_
                  refine R_getI (q := 133) (k1 := 4) rfl rfl rfl rfl rfl (by omega) rfl ?_
                  refine R_aload_n (q := 134) (i := 0) rfl rfl rfl rfl ?_
                  refine R_getI (q := 137) (k1 := 1) rfl rfl rfl rfl rfl (by omega) rfl ?_
                  refine R_icmp_ge (q := 140) (tgt := 145) rfl rfl (by decide) (by omega) (by omega) (fun h137 => ?_) (fun h137 => ?_)
                  · rw [if_pos (by omega)]
                    refine R_bipush (q := 147) rfl rfl (by decide) ?_
                    refine R_ret rfl (Or.inl rfl) ?_
                    refine ⟨rfl, S7, fun _ => ⟨k7, a7, b7, ?_⟩⟩
                    rw [c7]
                    unfold pTr
                    rw [if_pos HF.1]
                  · rw [if_neg (by omega)]
                    refine R_aload_n (q := 141) (i := 0) rfl rfl rfl rfl ?_
                    refine R_getI (q := 144) (k1 := 4) rfl rfl rfl rfl rfl (by omega) rfl ?_
                    refine R_ret rfl (Or.inl rfl) ?_
                    first
                    | exact ⟨s7, S7, fun z => by omega⟩
                    | exact ⟨s6.trans (by omega), S6, fun z => by omega⟩
            · have HE : (r2 (M 9) (M 8 1)).2.1 = M 8 1 := by omega
              rw [if_neg (by omega), if_pos HE]
              refine R_aload_n (q := 98) (i := 0) rfl rfl rfl rfl ?_
              refine R_getR (q := 101) rfl rfl rfl rfl rfl (by omega) ?_
              refine R_iconst (q := 102) rfl rfl ?_
              refine R_aload_n (q := 103) (i := 0) rfl rfl rfl rfl ?_
              refine R_getR (q := 106) rfl rfl rfl rfl rfl (by omega) ?_
              refine R_iconst (q := 107) rfl rfl ?_
              refine R_iald (q := 108) (v := nib (r1 (M 9) (M 8 1)).2.2) rfl rfl rfl (by omega) (by omega) a5 ?_
              refine R_iast (q := 109) rfl rfl rfl (by omega) (by omega) rfl ?_
              refine R_bipush (q := 111) rfl rfl (by decide) ?_
              refine R_ret rfl (Or.inl rfl) ?_
              refine ⟨rfl, S5.tr SpK.up, fun _ => ⟨?_, ?_, ?_, ?_⟩⟩
              · rw [congrFun (upM_r (by omega)) 2, k5]
              · rw [upM_k (by omega), a5]
              · rw [upM_k (by omega), b5]
              · rw [upM_s]
                unfold pTr
                rw [if_neg (by omega)]
          · have HS : (r2 (M 9) (M 8 1)).1 = 0 := by omega
            rw [if_pos HS]
            refine R_aload_n (q := 82) (i := 0) rfl rfl rfl rfl ?_
            refine R_getI (q := 85) (k1 := 4) rfl rfl rfl rfl rfl (by omega) rfl ?_
            refine R_ret rfl (Or.inl rfl) ?_
            first
            | exact ⟨s5, S5, fun z => by omega⟩
            | exact ⟨s4.trans (by omega), S4, fun z => by omega⟩
            | exact ⟨s3, S3, fun z => by omega⟩
            | exact ⟨s2.trans (by omega), S2, fun z => by omega⟩
  · have HA : ¬ (0 < M 8 1 ∧ 48 ≤ M 9 0 ∧ M 9 0 ≤ 52) := by omega
    refine R_aload_n (q := 17) (i := 0) rfl rfl rfl rfl ?_
    refine R_getI (q := 20) (k1 := 4) rfl rfl rfl rfl rfl (by omega) rfl ?_
    refine R_ret rfl (Or.inl rfl) ?_
    rw [if_pos HA]
    exact ⟨s0, S0, fun z => by omega⟩
set_option maxRecDepth 100000 in
theorem mt_X2_findFault : MtOK yX2_findFault cX2_findFault 1 (some .int) 2 C_X2_findFault := by
  refine mt_of sx_X2_findFault (by decide +kernel) (Or.inl ⟨rfl, rfl, rfl⟩) (by decide +kernel) fdX2_ok kLX2_ok kIX2_ok sgX2_ok ntX2_ok
    (all_cons (clokV mt_X2_isNext rfl (GT_at 226 (by decide +kernel) (by decide +kernel)) (GT_at 16 (by decide +kernel) (by decide +kernel)) (GT_at 229 (by decide +kernel) (by decide +kernel)) (by decide +kernel) (by decide) (GT_at 228 (by decide +kernel) (by decide +kernel)) (GT_at 0 (by decide +kernel) (by decide +kernel)) rfl rfl) (all_cons (clokV mt_X2_skips rfl (GT_at 230 (by decide +kernel) (by decide +kernel)) (GT_at 16 (by decide +kernel) (by decide +kernel)) (GT_at 233 (by decide +kernel) (by decide +kernel)) (by decide +kernel) (by decide) (GT_at 232 (by decide +kernel) (by decide +kernel)) (GT_at 1 (by decide +kernel) (by decide +kernel)) rfl rfl) (all_cons (clokV mt_X2_readPaper rfl (GT_at 234 (by decide +kernel) (by decide +kernel)) (GT_at 16 (by decide +kernel) (by decide +kernel)) (GT_at 237 (by decide +kernel) (by decide +kernel)) (by decide +kernel) (by decide) (GT_at 236 (by decide +kernel) (by decide +kernel)) (GT_at 2 (by decide +kernel) (by decide +kernel)) rfl rfl) (all_nil)))) ?_ ?_
  · rintro as M - ⟨o, rfl, hp⟩
    exact Nat.le_of_ble_eq_true rfl
  · rintro L scr as M - ⟨o, rfl, hp⟩
    exact Runs.mono (fun x M' h _ e => by cases e; exact h) (ok_X2_findFault L scr o M hp)
