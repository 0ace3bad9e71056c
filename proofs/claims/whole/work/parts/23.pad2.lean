abbrev C_X7_fault : Ct := (1, true, fun as M => ∃ (o : Nat), as = [wR o] ∧ (o = 11 ∧ PdM M), fun as M x M' => ∀ (o : Nat), as = [wR o] → (x = flt (M 14) (M 11 4) ∧ Sp M M'))
def sx_X7_fault : Sx := (tb_X7_fault, fdX7, kLX7, kIX7, sgX7, ntX7, [(190, (7, C_X7_isHere)), (193, (7, C_X7_takesSign)), (142, (7, C_X7_readsPaper))], 1)
set_option maxRecDepth 100000 in
set_option maxHeartbeats 1000000 in
theorem ok_X7_fault (L : Nat) (scr : Int → Int) (o : Nat) (M : Mem) (hp : o = 11 ∧ PdM M) : Runs sx_X7_fault L (xcF scr) (fun x M' => x = flt (M 14) (M 11 4) ∧ Sp M M') 0 [wR o, none] [] M := by
  obtain ⟨rfl, pd⟩ := hp
  have p60 := pd.1
  have S0 : Sp M (upM M 11 5 0) := Sp.u5
  have s0 : upM M 11 5 0 11 5 = 0 := upM_s
  have t0 := S0.1 4 (by omega) (by omega)
  have e0 := S0.2 14 (by decide)
  unfold flt
  by_cases HA : 0 < M 11 4 ∧ 48 ≤ M 14 0 ∧ M 14 0 ≤ 52
  · by_cases HB : 1 < M 11 4 ∧ M 14 1 = 58
    · by_cases HR : (r1 (M 14) (M 11 4)).1 = 0
      · refine R_aload_n (q := 1) (i := 0) rfl rfl rfl rfl ?_
        refine R_iconst (q := 2) rfl rfl ?_
        refine R_putI (q := 5) (k1 := 5) rfl rfl rfl rfl rfl (by omega) rfl rfl rfl rfl ?_
        refine R_aload_n (q := 6) (i := 0) rfl rfl rfl rfl ?_
        refine R_bipush (q := 8) rfl rfl (by decide) ?_
        refine R_bipush (q := 10) rfl rfl (by decide) ?_
        refine R_cV2I (q := 13) (ci := 7) (C := C_X7_isHere) rfl rfl rfl rfl rfl ⟨_, _, _, rfl, ⟨rfl, S0.pd pd, by rw [s0]; omega, by omega, by omega⟩⟩ rfl rfl (by omega) (fun x M' hc => ?_)
        replace hc := hc _ _ _ rfl
        obtain ⟨hc, rfl⟩ := hc
        unfold isH at hc
        rw [s0, t0, e0] at hc
        have hx : x = 1 := by omega
        subst hx
        refine R_if_ne (q := 16) (tgt := 21) rfl rfl (by decide) (by omega) (fun h13 => ?_) (fun h13 => ?_)
        · refine R_aload_n (q := 22) (i := 0) rfl rfl rfl rfl ?_
          refine R_dup (q := 23) rfl rfl rfl ?_
          refine R_getI (q := 26) (k1 := 5) rfl rfl rfl rfl rfl (by omega) rfl ?_
          refine R_iconst (q := 27) rfl rfl ?_
          refine R_iadd (q := 28) rfl rfl ?_
          refine R_putI (q := 31) (k1 := 5) rfl rfl rfl rfl rfl (by omega) rfl rfl rfl rfl ?_
          generalize hM1 : upM (upM M 11 5 0) 11 5 (upM M 11 5 0 11 5 + 1) = M1
          have s1 : M1 11 5 = 1 := by rw [← hM1, upM_s, upM_s]; rfl
          have S1 : Sp M M1 := hM1 ▸ S0.tr Sp.u5
          have t1 := S1.1 4 (by omega) (by omega)
          have e1 := S1.2 14 (by decide)
          refine R_aload_n (q := 32) (i := 0) rfl rfl rfl rfl ?_
          refine R_bipush (q := 34) rfl rfl (by decide) ?_
          refine R_cV1I (q := 37) (ci := 7) (C := C_X7_takesSign) rfl rfl rfl rfl rfl ⟨_, _, rfl, ⟨rfl, S1.pd pd, by rw [s1]; omega, by omega⟩⟩ rfl rfl (by omega) (fun x M' hc => ?_)
          replace hc := hc _ _ rfl
          obtain ⟨hc, hm⟩ := hc
          rw [s1, t1, e1] at hc
          have hx : x = 1 := by omega
          subst hx
          have s2 : M' 11 5 = 2 := by rw [hm, upM_s, s1]; rfl
          have S2 : Sp M M' := hm ▸ S1.tr Sp.u5
          have t2 := S2.1 4 (by omega) (by omega)
          have e2 := S2.2 14 (by decide)
          refine R_if_eq (q := 40) (tgt := 67) rfl rfl (by decide) (by omega) (fun h37 => ?_) (fun h37 => ?_)
          · omega
          · refine R_aload_n (q := 41) (i := 0) rfl rfl rfl rfl ?_
            refine R_cV0I (q := 44) (ci := 7) (C := C_X7_readsPaper) rfl rfl rfl rfl rfl ⟨_, rfl, ⟨rfl, S2.pd pd, by rw [s2]; omega, by rw [s2, t2]; omega⟩⟩ rfl rfl (by omega) (fun x M' hc => ?_)
            replace hc := hc _ rfl
            obtain ⟨hx, s3, h6, Sx⟩ := hc
            rw [e2, t2, s2] at hx s3
            rw [r1_eq] at hx s3
            have b1 := rdp_bd (c := M 14) (n := M 11 4) 6 2 97 0 (by omega)
            rw [r1_eq] at b1
            have hx : x = 0 := by omega
            subst hx
            have S3 : Sp M M' := S2.tr Sx
            have t3 := S3.1 4 (by omega) (by omega)
            have e3 := S3.2 14 (by decide)
            refine R_if_eq (q := 47) (tgt := 67) rfl rfl (by decide) (by omega) (fun h44 => ?_) (fun h44 => ?_)
            · refine R_iconst (q := 68) rfl rfl ?_
              refine R_istore_n (q := 69) (i := 1) rfl rfl rfl rfl ?_
              refine R_iload_n (q := 70) (i := 1) rfl rfl rfl rfl ?_
              refine R_if_eq (q := 73) (tgt := 87) rfl rfl (by decide) (by omega) (fun h70 => ?_) (fun h70 => ?_)
              · refine R_iload_n (q := 88) (i := 1) rfl rfl rfl rfl ?_
                refine R_if_eq (q := 91) (tgt := 107) rfl rfl (by decide) (by omega) (fun h88 => ?_) (fun h88 => ?_)
                · refine R_aload_n (q := 108) (i := 0) rfl rfl rfl rfl ?_
                  refine R_getI (q := 111) (k1 := 5) rfl rfl rfl rfl rfl (by omega) rfl ?_
                  refine R_ret rfl (Or.inl rfl) ?_
                  rw [if_neg (not_not_intro HA), if_neg (not_not_intro HB), if_pos HR]
                  exact ⟨s3, S3⟩
                · omega
              · omega
            · omega
        · omega
      · by_cases HC : (r1 (M 14) (M 11 4)).2.1 < M 11 4 ∧ M 14 (r1 (M 14) (M 11 4)).2.1 = 47
        · by_cases HS : (r2 (M 14) (M 11 4)).1 = 0
          · refine R_aload_n (q := 1) (i := 0) rfl rfl rfl rfl ?_
            refine R_iconst (q := 2) rfl rfl ?_
            refine R_putI (q := 5) (k1 := 5) rfl rfl rfl rfl rfl (by omega) rfl rfl rfl rfl ?_
            refine R_aload_n (q := 6) (i := 0) rfl rfl rfl rfl ?_
            refine R_bipush (q := 8) rfl rfl (by decide) ?_
            refine R_bipush (q := 10) rfl rfl (by decide) ?_
            refine R_cV2I (q := 13) (ci := 7) (C := C_X7_isHere) rfl rfl rfl rfl rfl ⟨_, _, _, rfl, ⟨rfl, S0.pd pd, by rw [s0]; omega, by omega, by omega⟩⟩ rfl rfl (by omega) (fun x M' hc => ?_)
            replace hc := hc _ _ _ rfl
            obtain ⟨hc, rfl⟩ := hc
            unfold isH at hc
            rw [s0, t0, e0] at hc
            have hx : x = 1 := by omega
            subst hx
            refine R_if_ne (q := 16) (tgt := 21) rfl rfl (by decide) (by omega) (fun h13 => ?_) (fun h13 => ?_)
            · refine R_aload_n (q := 22) (i := 0) rfl rfl rfl rfl ?_
              refine R_dup (q := 23) rfl rfl rfl ?_
              refine R_getI (q := 26) (k1 := 5) rfl rfl rfl rfl rfl (by omega) rfl ?_
              refine R_iconst (q := 27) rfl rfl ?_
              refine R_iadd (q := 28) rfl rfl ?_
              refine R_putI (q := 31) (k1 := 5) rfl rfl rfl rfl rfl (by omega) rfl rfl rfl rfl ?_
              generalize hM1 : upM (upM M 11 5 0) 11 5 (upM M 11 5 0 11 5 + 1) = M1
              have s1 : M1 11 5 = 1 := by rw [← hM1, upM_s, upM_s]; rfl
              have S1 : Sp M M1 := hM1 ▸ S0.tr Sp.u5
              have t1 := S1.1 4 (by omega) (by omega)
              have e1 := S1.2 14 (by decide)
              refine R_aload_n (q := 32) (i := 0) rfl rfl rfl rfl ?_
              refine R_bipush (q := 34) rfl rfl (by decide) ?_
              refine R_cV1I (q := 37) (ci := 7) (C := C_X7_takesSign) rfl rfl rfl rfl rfl ⟨_, _, rfl, ⟨rfl, S1.pd pd, by rw [s1]; omega, by omega⟩⟩ rfl rfl (by omega) (fun x M' hc => ?_)
              replace hc := hc _ _ rfl
              obtain ⟨hc, hm⟩ := hc
              rw [s1, t1, e1] at hc
              have hx : x = 1 := by omega
              subst hx
              have s2 : M' 11 5 = 2 := by rw [hm, upM_s, s1]; rfl
              have S2 : Sp M M' := hm ▸ S1.tr Sp.u5
              have t2 := S2.1 4 (by omega) (by omega)
              have e2 := S2.2 14 (by decide)
              refine R_if_eq (q := 40) (tgt := 67) rfl rfl (by decide) (by omega) (fun h37 => ?_) (fun h37 => ?_)
              · omega
              · refine R_aload_n (q := 41) (i := 0) rfl rfl rfl rfl ?_
                refine R_cV0I (q := 44) (ci := 7) (C := C_X7_readsPaper) rfl rfl rfl rfl rfl ⟨_, rfl, ⟨rfl, S2.pd pd, by rw [s2]; omega, by rw [s2, t2]; omega⟩⟩ rfl rfl (by omega) (fun x M' hc => ?_)
                replace hc := hc _ rfl
                obtain ⟨hx, s3, h6, Sx⟩ := hc
                rw [e2, t2, s2] at hx s3
                rw [r1_eq] at hx s3
                have b1 := rdp_bd (c := M 14) (n := M 11 4) 6 2 97 0 (by omega)
                rw [r1_eq] at b1
                have hx : x = 1 := by omega
                subst hx
                have S3 : Sp M M' := S2.tr Sx
                have t3 := S3.1 4 (by omega) (by omega)
                have e3 := S3.2 14 (by decide)
                refine R_if_eq (q := 47) (tgt := 67) rfl rfl (by decide) (by omega) (fun h44 => ?_) (fun h44 => ?_)
                · omega
                · refine R_aload_n (q := 48) (i := 0) rfl rfl rfl rfl ?_
                  refine R_bipush (q := 50) rfl rfl (by decide) ?_
                  refine R_cV1I (q := 53) (ci := 7) (C := C_X7_takesSign) rfl rfl rfl rfl rfl ⟨_, _, rfl, ⟨rfl, S3.pd pd, by rw [s3]; omega, by omega⟩⟩ rfl rfl (by omega) (fun x M' hc => ?_)
                  replace hc := hc _ _ rfl
                  obtain ⟨hc, hm⟩ := hc
                  rw [s3, t3, e3] at hc
                  have hx : x = 1 := by omega
                  subst hx
                  have s4 : M' 11 5 = (r1 (M 14) (M 11 4)).2.1 + 1 := by rw [hm, upM_s, s3]
                  have S4 : Sp M M' := hm ▸ S3.tr Sp.u5
                  have t4 := S4.1 4 (by omega) (by omega)
                  have e4 := S4.2 14 (by decide)
                  refine R_if_eq (q := 56) (tgt := 67) rfl rfl (by decide) (by omega) (fun h53 => ?_) (fun h53 => ?_)
                  · omega
                  · refine R_aload_n (q := 57) (i := 0) rfl rfl rfl rfl ?_
                    refine R_cV0I (q := 60) (ci := 7) (C := C_X7_readsPaper) rfl rfl rfl rfl rfl ⟨_, rfl, ⟨rfl, S4.pd pd, by rw [s4]; omega, by rw [s4, t4]; omega⟩⟩ rfl rfl (by omega) (fun x M' hc => ?_)
                    replace hc := hc _ rfl
                    obtain ⟨hx, s5, h6, Sx⟩ := hc
                    rw [e4, t4, s4] at hx s5
                    rw [r2_eq] at hx s5
                    have b2 := rdp_bd (c := M 14) (n := M 11 4) 6 ((r1 (M 14) (M 11 4)).2.1 + 1) 97 0 (by omega)
                    rw [r2_eq] at b2
                    have hx : x = 0 := by omega
                    subst hx
                    have S5 : Sp M M' := S4.tr Sx
                    have t5 := S5.1 4 (by omega) (by omega)
                    have e5 := S5.2 14 (by decide)
                    refine R_if_eq (q := 63) (tgt := 67) rfl rfl (by decide) (by omega) (fun h60 => ?_) (fun h60 => ?_)
                    · refine R_iconst (q := 68) rfl rfl ?_
                      refine R_istore_n (q := 69) (i := 1) rfl rfl rfl rfl ?_
                      refine R_iload_n (q := 70) (i := 1) rfl rfl rfl rfl ?_
                      refine R_if_eq (q := 73) (tgt := 87) rfl rfl (by decide) (by omega) (fun h70 => ?_) (fun h70 => ?_)
                      · refine R_iload_n (q := 88) (i := 1) rfl rfl rfl rfl ?_
                        refine R_if_eq (q := 91) (tgt := 107) rfl rfl (by decide) (by omega) (fun h88 => ?_) (fun h88 => ?_)
                        · refine R_aload_n (q := 108) (i := 0) rfl rfl rfl rfl ?_
                          refine R_getI (q := 111) (k1 := 5) rfl rfl rfl rfl rfl (by omega) rfl ?_
                          refine R_ret rfl (Or.inl rfl) ?_
                          rw [if_neg (not_not_intro HA), if_neg (not_not_intro HB), if_neg HR, if_neg (not_not_intro HC), if_pos HS]
                          exact ⟨s5, S5⟩
                        · omega
                      · omega
                    · omega
            · omega
          · by_cases HE : (r2 (M 14) (M 11 4)).2.1 < M 11 4 ∧ M 14 (r2 (M 14) (M 11 4)).2.1 = 61
            · by_cases HT : (r3 (M 14) (M 11 4)).1 = 0
              · refine R_aload_n (q := 1) (i := 0) rfl rfl rfl rfl ?_
                refine R_iconst (q := 2) rfl rfl ?_
                refine R_putI (q := 5) (k1 := 5) rfl rfl rfl rfl rfl (by omega) rfl rfl rfl rfl ?_
                refine R_aload_n (q := 6) (i := 0) rfl rfl rfl rfl ?_
                refine R_bipush (q := 8) rfl rfl (by decide) ?_
                refine R_bipush (q := 10) rfl rfl (by decide) ?_
                refine R_cV2I (q := 13) (ci := 7) (C := C_X7_isHere) rfl rfl rfl rfl rfl ⟨_, _, _, rfl, ⟨rfl, S0.pd pd, by rw [s0]; omega, by omega, by omega⟩⟩ rfl rfl (by omega) (fun x M' hc => ?_)
                replace hc := hc _ _ _ rfl
                obtain ⟨hc, rfl⟩ := hc
                unfold isH at hc
                rw [s0, t0, e0] at hc
                have hx : x = 1 := by omega
                subst hx
                refine R_if_ne (q := 16) (tgt := 21) rfl rfl (by decide) (by omega) (fun h13 => ?_) (fun h13 => ?_)
                · refine R_aload_n (q := 22) (i := 0) rfl rfl rfl rfl ?_
                  refine R_dup (q := 23) rfl rfl rfl ?_
                  refine R_getI (q := 26) (k1 := 5) rfl rfl rfl rfl rfl (by omega) rfl ?_
                  refine R_iconst (q := 27) rfl rfl ?_
                  refine R_iadd (q := 28) rfl rfl ?_
                  refine R_putI (q := 31) (k1 := 5) rfl rfl rfl rfl rfl (by omega) rfl rfl rfl rfl ?_
                  generalize hM1 : upM (upM M 11 5 0) 11 5 (upM M 11 5 0 11 5 + 1) = M1
                  have s1 : M1 11 5 = 1 := by rw [← hM1, upM_s, upM_s]; rfl
                  have S1 : Sp M M1 := hM1 ▸ S0.tr Sp.u5
                  have t1 := S1.1 4 (by omega) (by omega)
                  have e1 := S1.2 14 (by decide)
                  refine R_aload_n (q := 32) (i := 0) rfl rfl rfl rfl ?_
                  refine R_bipush (q := 34) rfl rfl (by decide) ?_
                  refine R_cV1I (q := 37) (ci := 7) (C := C_X7_takesSign) rfl rfl rfl rfl rfl ⟨_, _, rfl, ⟨rfl, S1.pd pd, by rw [s1]; omega, by omega⟩⟩ rfl rfl (by omega) (fun x M' hc => ?_)
                  replace hc := hc _ _ rfl
                  obtain ⟨hc, hm⟩ := hc
                  rw [s1, t1, e1] at hc
                  have hx : x = 1 := by omega
                  subst hx
                  have s2 : M' 11 5 = 2 := by rw [hm, upM_s, s1]; rfl
                  have S2 : Sp M M' := hm ▸ S1.tr Sp.u5
                  have t2 := S2.1 4 (by omega) (by omega)
                  have e2 := S2.2 14 (by decide)
                  refine R_if_eq (q := 40) (tgt := 67) rfl rfl (by decide) (by omega) (fun h37 => ?_) (fun h37 => ?_)
                  · omega
                  · refine R_aload_n (q := 41) (i := 0) rfl rfl rfl rfl ?_
                    refine R_cV0I (q := 44) (ci := 7) (C := C_X7_readsPaper) rfl rfl rfl rfl rfl ⟨_, rfl, ⟨rfl, S2.pd pd, by rw [s2]; omega, by rw [s2, t2]; omega⟩⟩ rfl rfl (by omega) (fun x M' hc => ?_)
                    replace hc := hc _ rfl
                    obtain ⟨hx, s3, h6, Sx⟩ := hc
                    rw [e2, t2, s2] at hx s3
                    rw [r1_eq] at hx s3
                    have b1 := rdp_bd (c := M 14) (n := M 11 4) 6 2 97 0 (by omega)
                    rw [r1_eq] at b1
                    have hx : x = 1 := by omega
                    subst hx
                    have S3 : Sp M M' := S2.tr Sx
                    have t3 := S3.1 4 (by omega) (by omega)
                    have e3 := S3.2 14 (by decide)
                    refine R_if_eq (q := 47) (tgt := 67) rfl rfl (by decide) (by omega) (fun h44 => ?_) (fun h44 => ?_)
                    · omega
                    · refine R_aload_n (q := 48) (i := 0) rfl rfl rfl rfl ?_
                      refine R_bipush (q := 50) rfl rfl (by decide) ?_
                      refine R_cV1I (q := 53) (ci := 7) (C := C_X7_takesSign) rfl rfl rfl rfl rfl ⟨_, _, rfl, ⟨rfl, S3.pd pd, by rw [s3]; omega, by omega⟩⟩ rfl rfl (by omega) (fun x M' hc => ?_)
                      replace hc := hc _ _ rfl
                      obtain ⟨hc, hm⟩ := hc
                      rw [s3, t3, e3] at hc
                      have hx : x = 1 := by omega
                      subst hx
                      have s4 : M' 11 5 = (r1 (M 14) (M 11 4)).2.1 + 1 := by rw [hm, upM_s, s3]
                      have S4 : Sp M M' := hm ▸ S3.tr Sp.u5
                      have t4 := S4.1 4 (by omega) (by omega)
                      have e4 := S4.2 14 (by decide)
                      refine R_if_eq (q := 56) (tgt := 67) rfl rfl (by decide) (by omega) (fun h53 => ?_) (fun h53 => ?_)
                      · omega
                      · refine R_aload_n (q := 57) (i := 0) rfl rfl rfl rfl ?_
                        refine R_cV0I (q := 60) (ci := 7) (C := C_X7_readsPaper) rfl rfl rfl rfl rfl ⟨_, rfl, ⟨rfl, S4.pd pd, by rw [s4]; omega, by rw [s4, t4]; omega⟩⟩ rfl rfl (by omega) (fun x M' hc => ?_)
                        replace hc := hc _ rfl
                        obtain ⟨hx, s5, h6, Sx⟩ := hc
                        rw [e4, t4, s4] at hx s5
                        rw [r2_eq] at hx s5
                        have b2 := rdp_bd (c := M 14) (n := M 11 4) 6 ((r1 (M 14) (M 11 4)).2.1 + 1) 97 0 (by omega)
                        rw [r2_eq] at b2
                        have hx : x = 1 := by omega
                        subst hx
                        have S5 : Sp M M' := S4.tr Sx
                        have t5 := S5.1 4 (by omega) (by omega)
                        have e5 := S5.2 14 (by decide)
                        refine R_if_eq (q := 63) (tgt := 67) rfl rfl (by decide) (by omega) (fun h60 => ?_) (fun h60 => ?_)
                        · omega
                        · refine R_iconst (q := 64) rfl rfl ?_
                          refine R_goto (q := 67) (tgt := 68) rfl rfl (by decide) ?_
                          refine R_istore_n (q := 69) (i := 1) rfl rfl rfl rfl ?_
                          refine R_iload_n (q := 70) (i := 1) rfl rfl rfl rfl ?_
                          refine R_if_eq (q := 73) (tgt := 87) rfl rfl (by decide) (by omega) (fun h70 => ?_) (fun h70 => ?_)
                          · omega
                          · refine R_aload_n (q := 74) (i := 0) rfl rfl rfl rfl ?_
                            refine R_bipush (q := 76) rfl rfl (by decide) ?_
                            refine R_cV1I (q := 79) (ci := 7) (C := C_X7_takesSign) rfl rfl rfl rfl rfl ⟨_, _, rfl, ⟨rfl, S5.pd pd, by rw [s5]; omega, by omega⟩⟩ rfl rfl (by omega) (fun x M' hc => ?_)
                            replace hc := hc _ _ rfl
                            obtain ⟨hc, hm⟩ := hc
                            rw [s5, t5, e5] at hc
                            have hx : x = 1 := by omega
                            subst hx
                            have s6 : M' 11 5 = (r2 (M 14) (M 11 4)).2.1 + 1 := by rw [hm, upM_s, s5]
                            have S6 : Sp M M' := hm ▸ S5.tr Sp.u5
                            have t6 := S6.1 4 (by omega) (by omega)
                            have e6 := S6.2 14 (by decide)
                            refine R_if_eq (q := 82) (tgt := 87) rfl rfl (by decide) (by omega) (fun h79 => ?_) (fun h79 => ?_)
                            · omega
                            · refine R_aload_n (q := 83) (i := 0) rfl rfl rfl rfl ?_
                              refine R_cV0I (q := 86) (ci := 7) (C := C_X7_readsPaper) rfl rfl rfl rfl rfl ⟨_, rfl, ⟨rfl, S6.pd pd, by rw [s6]; omega, by rw [s6, t6]; omega⟩⟩ rfl rfl (by omega) (fun x M' hc => ?_)
                              replace hc := hc _ rfl
                              obtain ⟨hx, s7, h6, Sx⟩ := hc
                              rw [e6, t6, s6] at hx s7
                              rw [r3_eq] at hx s7
                              have b3 := rdp_bd (c := M 14) (n := M 11 4) 6 ((r2 (M 14) (M 11 4)).2.1 + 1) 97 0 (by omega)
                              rw [r3_eq] at b3
                              have hx : x = 0 := by omega
                              subst hx
                              have S7 : Sp M M' := S6.tr Sx
                              have t7 := S7.1 4 (by omega) (by omega)
                              have e7 := S7.2 14 (by decide)
                              refine R_istore_n (q := 87) (i := 1) rfl rfl rfl rfl ?_
                              refine R_iload_n (q := 88) (i := 1) rfl rfl rfl rfl ?_
                              refine R_if_eq (q := 91) (tgt := 107) rfl rfl (by decide) (by omega) (fun h88 => ?_) (fun h88 => ?_)
                              · refine R_aload_n (q := 108) (i := 0) rfl rfl rfl rfl ?_
                                refine R_getI (q := 111) (k1 := 5) rfl rfl rfl rfl rfl (by omega) rfl ?_
                                refine R_ret rfl (Or.inl rfl) ?_
                                rw [if_neg (not_not_intro HA), if_neg (not_not_intro HB), if_neg HR, if_neg (not_not_intro HC), if_neg HS, if_pos HE, if_pos HT]
                                exact ⟨s7, S7⟩
                              · omega
                · omega
              · by_cases HN : (r3 (M 14) (M 11 4)).2.1 = M 11 4
                · refine R_aload_n (q := 1) (i := 0) rfl rfl rfl rfl ?_
                  refine R_iconst (q := 2) rfl rfl ?_
                  refine R_putI (q := 5) (k1 := 5) rfl rfl rfl rfl rfl (by omega) rfl rfl rfl rfl ?_
                  refine R_aload_n (q := 6) (i := 0) rfl rfl rfl rfl ?_
                  refine R_bipush (q := 8) rfl rfl (by decide) ?_
                  refine R_bipush (q := 10) rfl rfl (by decide) ?_
                  refine R_cV2I (q := 13) (ci := 7) (C := C_X7_isHere) rfl rfl rfl rfl rfl ⟨_, _, _, rfl, ⟨rfl, S0.pd pd, by rw [s0]; omega, by omega, by omega⟩⟩ rfl rfl (by omega) (fun x M' hc => ?_)
                  replace hc := hc _ _ _ rfl
                  obtain ⟨hc, rfl⟩ := hc
                  unfold isH at hc
                  rw [s0, t0, e0] at hc
                  have hx : x = 1 := by omega
                  subst hx
                  refine R_if_ne (q := 16) (tgt := 21) rfl rfl (by decide) (by omega) (fun h13 => ?_) (fun h13 => ?_)
                  · refine R_aload_n (q := 22) (i := 0) rfl rfl rfl rfl ?_
                    refine R_dup (q := 23) rfl rfl rfl ?_
                    refine R_getI (q := 26) (k1 := 5) rfl rfl rfl rfl rfl (by omega) rfl ?_
                    refine R_iconst (q := 27) rfl rfl ?_
                    refine R_iadd (q := 28) rfl rfl ?_
                    refine R_putI (q := 31) (k1 := 5) rfl rfl rfl rfl rfl (by omega) rfl rfl rfl rfl ?_
                    generalize hM1 : upM (upM M 11 5 0) 11 5 (upM M 11 5 0 11 5 + 1) = M1
                    have s1 : M1 11 5 = 1 := by rw [← hM1, upM_s, upM_s]; rfl
                    have S1 : Sp M M1 := hM1 ▸ S0.tr Sp.u5
                    have t1 := S1.1 4 (by omega) (by omega)
                    have e1 := S1.2 14 (by decide)
                    refine R_aload_n (q := 32) (i := 0) rfl rfl rfl rfl ?_
                    refine R_bipush (q := 34) rfl rfl (by decide) ?_
                    refine R_cV1I (q := 37) (ci := 7) (C := C_X7_takesSign) rfl rfl rfl rfl rfl ⟨_, _, rfl, ⟨rfl, S1.pd pd, by rw [s1]; omega, by omega⟩⟩ rfl rfl (by omega) (fun x M' hc => ?_)
                    replace hc := hc _ _ rfl
                    obtain ⟨hc, hm⟩ := hc
                    rw [s1, t1, e1] at hc
                    have hx : x = 1 := by omega
                    subst hx
                    have s2 : M' 11 5 = 2 := by rw [hm, upM_s, s1]; rfl
                    have S2 : Sp M M' := hm ▸ S1.tr Sp.u5
                    have t2 := S2.1 4 (by omega) (by omega)
                    have e2 := S2.2 14 (by decide)
                    refine R_if_eq (q := 40) (tgt := 67) rfl rfl (by decide) (by omega) (fun h37 => ?_) (fun h37 => ?_)
                    · omega
                    · refine R_aload_n (q := 41) (i := 0) rfl rfl rfl rfl ?_
                      refine R_cV0I (q := 44) (ci := 7) (C := C_X7_readsPaper) rfl rfl rfl rfl rfl ⟨_, rfl, ⟨rfl, S2.pd pd, by rw [s2]; omega, by rw [s2, t2]; omega⟩⟩ rfl rfl (by omega) (fun x M' hc => ?_)
                      replace hc := hc _ rfl
                      obtain ⟨hx, s3, h6, Sx⟩ := hc
                      rw [e2, t2, s2] at hx s3
                      rw [r1_eq] at hx s3
                      have b1 := rdp_bd (c := M 14) (n := M 11 4) 6 2 97 0 (by omega)
                      rw [r1_eq] at b1
                      have hx : x = 1 := by omega
                      subst hx
                      have S3 : Sp M M' := S2.tr Sx
                      have t3 := S3.1 4 (by omega) (by omega)
                      have e3 := S3.2 14 (by decide)
                      refine R_if_eq (q := 47) (tgt := 67) rfl rfl (by decide) (by omega) (fun h44 => ?_) (fun h44 => ?_)
                      · omega
                      · refine R_aload_n (q := 48) (i := 0) rfl rfl rfl rfl ?_
                        refine R_bipush (q := 50) rfl rfl (by decide) ?_
                        refine R_cV1I (q := 53) (ci := 7) (C := C_X7_takesSign) rfl rfl rfl rfl rfl ⟨_, _, rfl, ⟨rfl, S3.pd pd, by rw [s3]; omega, by omega⟩⟩ rfl rfl (by omega) (fun x M' hc => ?_)
                        replace hc := hc _ _ rfl
                        obtain ⟨hc, hm⟩ := hc
                        rw [s3, t3, e3] at hc
                        have hx : x = 1 := by omega
                        subst hx
                        have s4 : M' 11 5 = (r1 (M 14) (M 11 4)).2.1 + 1 := by rw [hm, upM_s, s3]
                        have S4 : Sp M M' := hm ▸ S3.tr Sp.u5
                        have t4 := S4.1 4 (by omega) (by omega)
                        have e4 := S4.2 14 (by decide)
                        refine R_if_eq (q := 56) (tgt := 67) rfl rfl (by decide) (by omega) (fun h53 => ?_) (fun h53 => ?_)
                        · omega
                        · refine R_aload_n (q := 57) (i := 0) rfl rfl rfl rfl ?_
                          refine R_cV0I (q := 60) (ci := 7) (C := C_X7_readsPaper) rfl rfl rfl rfl rfl ⟨_, rfl, ⟨rfl, S4.pd pd, by rw [s4]; omega, by rw [s4, t4]; omega⟩⟩ rfl rfl (by omega) (fun x M' hc => ?_)
                          replace hc := hc _ rfl
                          obtain ⟨hx, s5, h6, Sx⟩ := hc
                          rw [e4, t4, s4] at hx s5
                          rw [r2_eq] at hx s5
                          have b2 := rdp_bd (c := M 14) (n := M 11 4) 6 ((r1 (M 14) (M 11 4)).2.1 + 1) 97 0 (by omega)
                          rw [r2_eq] at b2
                          have hx : x = 1 := by omega
                          subst hx
                          have S5 : Sp M M' := S4.tr Sx
                          have t5 := S5.1 4 (by omega) (by omega)
                          have e5 := S5.2 14 (by decide)
                          refine R_if_eq (q := 63) (tgt := 67) rfl rfl (by decide) (by omega) (fun h60 => ?_) (fun h60 => ?_)
                          · omega
                          · refine R_iconst (q := 64) rfl rfl ?_
                            refine R_goto (q := 67) (tgt := 68) rfl rfl (by decide) ?_
                            refine R_istore_n (q := 69) (i := 1) rfl rfl rfl rfl ?_
                            refine R_iload_n (q := 70) (i := 1) rfl rfl rfl rfl ?_
                            refine R_if_eq (q := 73) (tgt := 87) rfl rfl (by decide) (by omega) (fun h70 => ?_) (fun h70 => ?_)
                            · omega
                            · refine R_aload_n (q := 74) (i := 0) rfl rfl rfl rfl ?_
                              refine R_bipush (q := 76) rfl rfl (by decide) ?_
                              refine R_cV1I (q := 79) (ci := 7) (C := C_X7_takesSign) rfl rfl rfl rfl rfl ⟨_, _, rfl, ⟨rfl, S5.pd pd, by rw [s5]; omega, by omega⟩⟩ rfl rfl (by omega) (fun x M' hc => ?_)
                              replace hc := hc _ _ rfl
                              obtain ⟨hc, hm⟩ := hc
                              rw [s5, t5, e5] at hc
                              have hx : x = 1 := by omega
                              subst hx
                              have s6 : M' 11 5 = (r2 (M 14) (M 11 4)).2.1 + 1 := by rw [hm, upM_s, s5]
                              have S6 : Sp M M' := hm ▸ S5.tr Sp.u5
                              have t6 := S6.1 4 (by omega) (by omega)
                              have e6 := S6.2 14 (by decide)
                              refine R_if_eq (q := 82) (tgt := 87) rfl rfl (by decide) (by omega) (fun h79 => ?_) (fun h79 => ?_)
                              · omega
                              · refine R_aload_n (q := 83) (i := 0) rfl rfl rfl rfl ?_
                                refine R_cV0I (q := 86) (ci := 7) (C := C_X7_readsPaper) rfl rfl rfl rfl rfl ⟨_, rfl, ⟨rfl, S6.pd pd, by rw [s6]; omega, by rw [s6, t6]; omega⟩⟩ rfl rfl (by omega) (fun x M' hc => ?_)
                                replace hc := hc _ rfl
                                obtain ⟨hx, s7, h6, Sx⟩ := hc
                                rw [e6, t6, s6] at hx s7
                                rw [r3_eq] at hx s7
                                have b3 := rdp_bd (c := M 14) (n := M 11 4) 6 ((r2 (M 14) (M 11 4)).2.1 + 1) 97 0 (by omega)
                                rw [r3_eq] at b3
                                have hx : x = 1 := by omega
                                subst hx
                                have S7 : Sp M M' := S6.tr Sx
                                have t7 := S7.1 4 (by omega) (by omega)
                                have e7 := S7.2 14 (by decide)
                                refine R_istore_n (q := 87) (i := 1) rfl rfl rfl rfl ?_
                                refine R_iload_n (q := 88) (i := 1) rfl rfl rfl rfl ?_
                                refine R_if_eq (q := 91) (tgt := 107) rfl rfl (by decide) (by omega) (fun h88 => ?_) (fun h88 => ?_)
                                · omega
                                · refine R_aload_n (q := 92) (i := 0) rfl rfl rfl rfl ?_
                                  refine R_getI (q := 95) (k1 := 5) rfl rfl rfl rfl rfl (by omega) rfl ?_
                                  refine R_aload_n (q := 96) (i := 0) rfl rfl rfl rfl ?_
                                  refine R_getI (q := 99) (k1 := 4) rfl rfl rfl rfl rfl (by omega) rfl ?_
                                  refine R_icmp_ne (q := 102) (tgt := 107) rfl rfl (by decide) (by omega) (by omega) (fun h99 => ?_) (fun h99 => ?_)
                                  · exact absurd (s7.trans (HN.trans t7.symm)) h99
                                  · refine R_bipush (q := 104) rfl rfl (by decide) ?_
                                    refine R_goto (q := 107) (tgt := 111) rfl rfl (by decide) ?_
                                    refine R_ret rfl (Or.inl rfl) ?_
                                    rw [if_neg (not_not_intro HA), if_neg (not_not_intro HB), if_neg HR, if_neg (not_not_intro HC), if_neg HS, if_pos HE, if_neg HT, if_pos HN]
                                    exact ⟨rfl, S7⟩
                  · omega
                · refine R_aload_n (q := 1) (i := 0) rfl rfl rfl rfl ?_
                  refine R_iconst (q := 2) rfl rfl ?_
                  refine R_putI (q := 5) (k1 := 5) rfl rfl rfl rfl rfl (by omega) rfl rfl rfl rfl ?_
                  refine R_aload_n (q := 6) (i := 0) rfl rfl rfl rfl ?_
                  refine R_bipush (q := 8) rfl rfl (by decide) ?_
                  refine R_bipush (q := 10) rfl rfl (by decide) ?_
                  refine R_cV2I (q := 13) (ci := 7) (C := C_X7_isHere) rfl rfl rfl rfl rfl ⟨_, _, _, rfl, ⟨rfl, S0.pd pd, by rw [s0]; omega, by omega, by omega⟩⟩ rfl rfl (by omega) (fun x M' hc => ?_)
                  replace hc := hc _ _ _ rfl
                  obtain ⟨hc, rfl⟩ := hc
                  unfold isH at hc
                  rw [s0, t0, e0] at hc
                  have hx : x = 1 := by omega
                  subst hx
                  refine R_if_ne (q := 16) (tgt := 21) rfl rfl (by decide) (by omega) (fun h13 => ?_) (fun h13 => ?_)
                  · refine R_aload_n (q := 22) (i := 0) rfl rfl rfl rfl ?_
                    refine R_dup (q := 23) rfl rfl rfl ?_
                    refine R_getI (q := 26) (k1 := 5) rfl rfl rfl rfl rfl (by omega) rfl ?_
                    refine R_iconst (q := 27) rfl rfl ?_
                    refine R_iadd (q := 28) rfl rfl ?_
                    refine R_putI (q := 31) (k1 := 5) rfl rfl rfl rfl rfl (by omega) rfl rfl rfl rfl ?_
                    generalize hM1 : upM (upM M 11 5 0) 11 5 (upM M 11 5 0 11 5 + 1) = M1
                    have s1 : M1 11 5 = 1 := by rw [← hM1, upM_s, upM_s]; rfl
                    have S1 : Sp M M1 := hM1 ▸ S0.tr Sp.u5
                    have t1 := S1.1 4 (by omega) (by omega)
                    have e1 := S1.2 14 (by decide)
                    refine R_aload_n (q := 32) (i := 0) rfl rfl rfl rfl ?_
                    refine R_bipush (q := 34) rfl rfl (by decide) ?_
                    refine R_cV1I (q := 37) (ci := 7) (C := C_X7_takesSign) rfl rfl rfl rfl rfl ⟨_, _, rfl, ⟨rfl, S1.pd pd, by rw [s1]; omega, by omega⟩⟩ rfl rfl (by omega) (fun x M' hc => ?_)
                    replace hc := hc _ _ rfl
                    obtain ⟨hc, hm⟩ := hc
                    rw [s1, t1, e1] at hc
                    have hx : x = 1 := by omega
                    subst hx
                    have s2 : M' 11 5 = 2 := by rw [hm, upM_s, s1]; rfl
                    have S2 : Sp M M' := hm ▸ S1.tr Sp.u5
                    have t2 := S2.1 4 (by omega) (by omega)
                    have e2 := S2.2 14 (by decide)
                    refine R_if_eq (q := 40) (tgt := 67) rfl rfl (by decide) (by omega) (fun h37 => ?_) (fun h37 => ?_)
                    · omega
                    · refine R_aload_n (q := 41) (i := 0) rfl rfl rfl rfl ?_
                      refine R_cV0I (q := 44) (ci := 7) (C := C_X7_readsPaper) rfl rfl rfl rfl rfl ⟨_, rfl, ⟨rfl, S2.pd pd, by rw [s2]; omega, by rw [s2, t2]; omega⟩⟩ rfl rfl (by omega) (fun x M' hc => ?_)
                      replace hc := hc _ rfl
                      obtain ⟨hx, s3, h6, Sx⟩ := hc
                      rw [e2, t2, s2] at hx s3
                      rw [r1_eq] at hx s3
                      have b1 := rdp_bd (c := M 14) (n := M 11 4) 6 2 97 0 (by omega)
                      rw [r1_eq] at b1
                      have hx : x = 1 := by omega
                      subst hx
                      have S3 : Sp M M' := S2.tr Sx
                      have t3 := S3.1 4 (by omega) (by omega)
                      have e3 := S3.2 14 (by decide)
                      refine R_if_eq (q := 47) (tgt := 67) rfl rfl (by decide) (by omega) (fun h44 => ?_) (fun h44 => ?_)
                      · omega
                      · refine R_aload_n (q := 48) (i := 0) rfl rfl rfl rfl ?_
                        refine R_bipush (q := 50) rfl rfl (by decide) ?_
                        refine R_cV1I (q := 53) (ci := 7) (C := C_X7_takesSign) rfl rfl rfl rfl rfl ⟨_, _, rfl, ⟨rfl, S3.pd pd, by rw [s3]; omega, by omega⟩⟩ rfl rfl (by omega) (fun x M' hc => ?_)
                        replace hc := hc _ _ rfl
                        obtain ⟨hc, hm⟩ := hc
                        rw [s3, t3, e3] at hc
                        have hx : x = 1 := by omega
                        subst hx
                        have s4 : M' 11 5 = (r1 (M 14) (M 11 4)).2.1 + 1 := by rw [hm, upM_s, s3]
                        have S4 : Sp M M' := hm ▸ S3.tr Sp.u5
                        have t4 := S4.1 4 (by omega) (by omega)
                        have e4 := S4.2 14 (by decide)
                        refine R_if_eq (q := 56) (tgt := 67) rfl rfl (by decide) (by omega) (fun h53 => ?_) (fun h53 => ?_)
                        · omega
                        · refine R_aload_n (q := 57) (i := 0) rfl rfl rfl rfl ?_
                          refine R_cV0I (q := 60) (ci := 7) (C := C_X7_readsPaper) rfl rfl rfl rfl rfl ⟨_, rfl, ⟨rfl, S4.pd pd, by rw [s4]; omega, by rw [s4, t4]; omega⟩⟩ rfl rfl (by omega) (fun x M' hc => ?_)
                          replace hc := hc _ rfl
                          obtain ⟨hx, s5, h6, Sx⟩ := hc
                          rw [e4, t4, s4] at hx s5
                          rw [r2_eq] at hx s5
                          have b2 := rdp_bd (c := M 14) (n := M 11 4) 6 ((r1 (M 14) (M 11 4)).2.1 + 1) 97 0 (by omega)
                          rw [r2_eq] at b2
                          have hx : x = 1 := by omega
                          subst hx
                          have S5 : Sp M M' := S4.tr Sx
                          have t5 := S5.1 4 (by omega) (by omega)
                          have e5 := S5.2 14 (by decide)
                          refine R_if_eq (q := 63) (tgt := 67) rfl rfl (by decide) (by omega) (fun h60 => ?_) (fun h60 => ?_)
                          · omega
                          · refine R_iconst (q := 64) rfl rfl ?_
                            refine R_goto (q := 67) (tgt := 68) rfl rfl (by decide) ?_
                            refine R_istore_n (q := 69) (i := 1) rfl rfl rfl rfl ?_
                            refine R_iload_n (q := 70) (i := 1) rfl rfl rfl rfl ?_
                            refine R_if_eq (q := 73) (tgt := 87) rfl rfl (by decide) (by omega) (fun h70 => ?_) (fun h70 => ?_)
                            · omega
                            · refine R_aload_n (q := 74) (i := 0) rfl rfl rfl rfl ?_
                              refine R_bipush (q := 76) rfl rfl (by decide) ?_
                              refine R_cV1I (q := 79) (ci := 7) (C := C_X7_takesSign) rfl rfl rfl rfl rfl ⟨_, _, rfl, ⟨rfl, S5.pd pd, by rw [s5]; omega, by omega⟩⟩ rfl rfl (by omega) (fun x M' hc => ?_)
                              replace hc := hc _ _ rfl
                              obtain ⟨hc, hm⟩ := hc
                              rw [s5, t5, e5] at hc
                              have hx : x = 1 := by omega
                              subst hx
                              have s6 : M' 11 5 = (r2 (M 14) (M 11 4)).2.1 + 1 := by rw [hm, upM_s, s5]
                              have S6 : Sp M M' := hm ▸ S5.tr Sp.u5
                              have t6 := S6.1 4 (by omega) (by omega)
                              have e6 := S6.2 14 (by decide)
                              refine R_if_eq (q := 82) (tgt := 87) rfl rfl (by decide) (by omega) (fun h79 => ?_) (fun h79 => ?_)
                              · omega
                              · refine R_aload_n (q := 83) (i := 0) rfl rfl rfl rfl ?_
                                refine R_cV0I (q := 86) (ci := 7) (C := C_X7_readsPaper) rfl rfl rfl rfl rfl ⟨_, rfl, ⟨rfl, S6.pd pd, by rw [s6]; omega, by rw [s6, t6]; omega⟩⟩ rfl rfl (by omega) (fun x M' hc => ?_)
                                replace hc := hc _ rfl
                                obtain ⟨hx, s7, h6, Sx⟩ := hc
                                rw [e6, t6, s6] at hx s7
                                rw [r3_eq] at hx s7
                                have b3 := rdp_bd (c := M 14) (n := M 11 4) 6 ((r2 (M 14) (M 11 4)).2.1 + 1) 97 0 (by omega)
                                rw [r3_eq] at b3
                                have hx : x = 1 := by omega
                                subst hx
                                have S7 : Sp M M' := S6.tr Sx
                                have t7 := S7.1 4 (by omega) (by omega)
                                have e7 := S7.2 14 (by decide)
                                refine R_istore_n (q := 87) (i := 1) rfl rfl rfl rfl ?_
                                refine R_iload_n (q := 88) (i := 1) rfl rfl rfl rfl ?_
                                refine R_if_eq (q := 91) (tgt := 107) rfl rfl (by decide) (by omega) (fun h88 => ?_) (fun h88 => ?_)
                                · omega
                                · refine R_aload_n (q := 92) (i := 0) rfl rfl rfl rfl ?_
                                  refine R_getI (q := 95) (k1 := 5) rfl rfl rfl rfl rfl (by omega) rfl ?_
                                  refine R_aload_n (q := 96) (i := 0) rfl rfl rfl rfl ?_
                                  refine R_getI (q := 99) (k1 := 4) rfl rfl rfl rfl rfl (by omega) rfl ?_
                                  refine R_icmp_ne (q := 102) (tgt := 107) rfl rfl (by decide) (by omega) (by omega) (fun h99 => ?_) (fun h99 => ?_)
                                  · refine R_aload_n (q := 108) (i := 0) rfl rfl rfl rfl ?_
                                    refine R_getI (q := 111) (k1 := 5) rfl rfl rfl rfl rfl (by omega) rfl ?_
                                    refine R_ret rfl (Or.inl rfl) ?_
                                    rw [if_neg (not_not_intro HA), if_neg (not_not_intro HB), if_neg HR, if_neg (not_not_intro HC), if_neg HS, if_pos HE, if_neg HT, if_neg HN]
                                    exact ⟨s7, S7⟩
                                  · exact False.elim (h99 (fun z => HN (s7.symm.trans (z.trans t7))))
                  · omega
            · by_cases HN : (r2 (M 14) (M 11 4)).2.1 = M 11 4
              · refine R_aload_n (q := 1) (i := 0) rfl rfl rfl rfl ?_
                refine R_iconst (q := 2) rfl rfl ?_
                refine R_putI (q := 5) (k1 := 5) rfl rfl rfl rfl rfl (by omega) rfl rfl rfl rfl ?_
                refine R_aload_n (q := 6) (i := 0) rfl rfl rfl rfl ?_
                refine R_bipush (q := 8) rfl rfl (by decide) ?_
                refine R_bipush (q := 10) rfl rfl (by decide) ?_
                refine R_cV2I (q := 13) (ci := 7) (C := C_X7_isHere) rfl rfl rfl rfl rfl ⟨_, _, _, rfl, ⟨rfl, S0.pd pd, by rw [s0]; omega, by omega, by omega⟩⟩ rfl rfl (by omega) (fun x M' hc => ?_)
                replace hc := hc _ _ _ rfl
                obtain ⟨hc, rfl⟩ := hc
                unfold isH at hc
                rw [s0, t0, e0] at hc
                have hx : x = 1 := by omega
                subst hx
                refine R_if_ne (q := 16) (tgt := 21) rfl rfl (by decide) (by omega) (fun h13 => ?_) (fun h13 => ?_)
                · refine R_aload_n (q := 22) (i := 0) rfl rfl rfl rfl ?_
                  refine R_dup (q := 23) rfl rfl rfl ?_
                  refine R_getI (q := 26) (k1 := 5) rfl rfl rfl rfl rfl (by omega) rfl ?_
                  refine R_iconst (q := 27) rfl rfl ?_
                  refine R_iadd (q := 28) rfl rfl ?_
                  refine R_putI (q := 31) (k1 := 5) rfl rfl rfl rfl rfl (by omega) rfl rfl rfl rfl ?_
                  generalize hM1 : upM (upM M 11 5 0) 11 5 (upM M 11 5 0 11 5 + 1) = M1
                  have s1 : M1 11 5 = 1 := by rw [← hM1, upM_s, upM_s]; rfl
                  have S1 : Sp M M1 := hM1 ▸ S0.tr Sp.u5
                  have t1 := S1.1 4 (by omega) (by omega)
                  have e1 := S1.2 14 (by decide)
                  refine R_aload_n (q := 32) (i := 0) rfl rfl rfl rfl ?_
                  refine R_bipush (q := 34) rfl rfl (by decide) ?_
                  refine R_cV1I (q := 37) (ci := 7) (C := C_X7_takesSign) rfl rfl rfl rfl rfl ⟨_, _, rfl, ⟨rfl, S1.pd pd, by rw [s1]; omega, by omega⟩⟩ rfl rfl (by omega) (fun x M' hc => ?_)
                  replace hc := hc _ _ rfl
                  obtain ⟨hc, hm⟩ := hc
                  rw [s1, t1, e1] at hc
                  have hx : x = 1 := by omega
                  subst hx
                  have s2 : M' 11 5 = 2 := by rw [hm, upM_s, s1]; rfl
                  have S2 : Sp M M' := hm ▸ S1.tr Sp.u5
                  have t2 := S2.1 4 (by omega) (by omega)
                  have e2 := S2.2 14 (by decide)
                  refine R_if_eq (q := 40) (tgt := 67) rfl rfl (by decide) (by omega) (fun h37 => ?_) (fun h37 => ?_)
                  · omega
                  · refine R_aload_n (q := 41) (i := 0) rfl rfl rfl rfl ?_
                    refine R_cV0I (q := 44) (ci := 7) (C := C_X7_readsPaper) rfl rfl rfl rfl rfl ⟨_, rfl, ⟨rfl, S2.pd pd, by rw [s2]; omega, by rw [s2, t2]; omega⟩⟩ rfl rfl (by omega) (fun x M' hc => ?_)
                    replace hc := hc _ rfl
                    obtain ⟨hx, s3, h6, Sx⟩ := hc
                    rw [e2, t2, s2] at hx s3
                    rw [r1_eq] at hx s3
                    have b1 := rdp_bd (c := M 14) (n := M 11 4) 6 2 97 0 (by omega)
                    rw [r1_eq] at b1
                    have hx : x = 1 := by omega
                    subst hx
                    have S3 : Sp M M' := S2.tr Sx
                    have t3 := S3.1 4 (by omega) (by omega)
                    have e3 := S3.2 14 (by decide)
                    refine R_if_eq (q := 47) (tgt := 67) rfl rfl (by decide) (by omega) (fun h44 => ?_) (fun h44 => ?_)
                    · omega
                    · refine R_aload_n (q := 48) (i := 0) rfl rfl rfl rfl ?_
                      refine R_bipush (q := 50) rfl rfl (by decide) ?_
                      refine R_cV1I (q := 53) (ci := 7) (C := C_X7_takesSign) rfl rfl rfl rfl rfl ⟨_, _, rfl, ⟨rfl, S3.pd pd, by rw [s3]; omega, by omega⟩⟩ rfl rfl (by omega) (fun x M' hc => ?_)
                      replace hc := hc _ _ rfl
                      obtain ⟨hc, hm⟩ := hc
                      rw [s3, t3, e3] at hc
                      have hx : x = 1 := by omega
                      subst hx
                      have s4 : M' 11 5 = (r1 (M 14) (M 11 4)).2.1 + 1 := by rw [hm, upM_s, s3]
                      have S4 : Sp M M' := hm ▸ S3.tr Sp.u5
                      have t4 := S4.1 4 (by omega) (by omega)
                      have e4 := S4.2 14 (by decide)
                      refine R_if_eq (q := 56) (tgt := 67) rfl rfl (by decide) (by omega) (fun h53 => ?_) (fun h53 => ?_)
                      · omega
                      · refine R_aload_n (q := 57) (i := 0) rfl rfl rfl rfl ?_
                        refine R_cV0I (q := 60) (ci := 7) (C := C_X7_readsPaper) rfl rfl rfl rfl rfl ⟨_, rfl, ⟨rfl, S4.pd pd, by rw [s4]; omega, by rw [s4, t4]; omega⟩⟩ rfl rfl (by omega) (fun x M' hc => ?_)
                        replace hc := hc _ rfl
                        obtain ⟨hx, s5, h6, Sx⟩ := hc
                        rw [e4, t4, s4] at hx s5
                        rw [r2_eq] at hx s5
                        have b2 := rdp_bd (c := M 14) (n := M 11 4) 6 ((r1 (M 14) (M 11 4)).2.1 + 1) 97 0 (by omega)
                        rw [r2_eq] at b2
                        have hx : x = 1 := by omega
                        subst hx
                        have S5 : Sp M M' := S4.tr Sx
                        have t5 := S5.1 4 (by omega) (by omega)
                        have e5 := S5.2 14 (by decide)
                        refine R_if_eq (q := 63) (tgt := 67) rfl rfl (by decide) (by omega) (fun h60 => ?_) (fun h60 => ?_)
                        · omega
                        · refine R_iconst (q := 64) rfl rfl ?_
                          refine R_goto (q := 67) (tgt := 68) rfl rfl (by decide) ?_
                          refine R_istore_n (q := 69) (i := 1) rfl rfl rfl rfl ?_
                          refine R_iload_n (q := 70) (i := 1) rfl rfl rfl rfl ?_
                          refine R_if_eq (q := 73) (tgt := 87) rfl rfl (by decide) (by omega) (fun h70 => ?_) (fun h70 => ?_)
                          · omega
                          · refine R_aload_n (q := 74) (i := 0) rfl rfl rfl rfl ?_
                            refine R_bipush (q := 76) rfl rfl (by decide) ?_
                            refine R_cV1I (q := 79) (ci := 7) (C := C_X7_takesSign) rfl rfl rfl rfl rfl ⟨_, _, rfl, ⟨rfl, S5.pd pd, by rw [s5]; omega, by omega⟩⟩ rfl rfl (by omega) (fun x M' hc => ?_)
                            replace hc := hc _ _ rfl
                            obtain ⟨hc, hm⟩ := hc
                            rw [s5, t5, e5] at hc
                            have hx : x = 0 := by omega
                            subst hx
                            have s6 : M' 11 5 = (r2 (M 14) (M 11 4)).2.1 + 0 := by rw [hm, upM_s, s5]
                            have S6 : Sp M M' := hm ▸ S5.tr Sp.u5
                            have t6 := S6.1 4 (by omega) (by omega)
                            have e6 := S6.2 14 (by decide)
                            refine R_if_eq (q := 82) (tgt := 87) rfl rfl (by decide) (by omega) (fun h79 => ?_) (fun h79 => ?_)
                            · refine R_iload_n (q := 88) (i := 1) rfl rfl rfl rfl ?_
                              refine R_if_eq (q := 91) (tgt := 107) rfl rfl (by decide) (by omega) (fun h88 => ?_) (fun h88 => ?_)
                              · omega
                              · refine R_aload_n (q := 92) (i := 0) rfl rfl rfl rfl ?_
                                refine R_getI (q := 95) (k1 := 5) rfl rfl rfl rfl rfl (by omega) rfl ?_
                                refine R_aload_n (q := 96) (i := 0) rfl rfl rfl rfl ?_
                                refine R_getI (q := 99) (k1 := 4) rfl rfl rfl rfl rfl (by omega) rfl ?_
                                refine R_icmp_ne (q := 102) (tgt := 107) rfl rfl (by decide) (by omega) (by omega) (fun h99 => ?_) (fun h99 => ?_)
                                · exact absurd ((s6.trans (Int.add_zero _)).trans (HN.trans t6.symm)) h99
                                · refine R_bipush (q := 104) rfl rfl (by decide) ?_
                                  refine R_goto (q := 107) (tgt := 111) rfl rfl (by decide) ?_
                                  refine R_ret rfl (Or.inl rfl) ?_
                                  rw [if_neg (not_not_intro HA), if_neg (not_not_intro HB), if_neg HR, if_neg (not_not_intro HC), if_neg HS, if_neg HE, if_pos HN]
                                  exact ⟨rfl, S6⟩
                            · omega
                · omega
              · refine R_aload_n (q := 1) (i := 0) rfl rfl rfl rfl ?_
                refine R_iconst (q := 2) rfl rfl ?_
                refine R_putI (q := 5) (k1 := 5) rfl rfl rfl rfl rfl (by omega) rfl rfl rfl rfl ?_
                refine R_aload_n (q := 6) (i := 0) rfl rfl rfl rfl ?_
                refine R_bipush (q := 8) rfl rfl (by decide) ?_
                refine R_bipush (q := 10) rfl rfl (by decide) ?_
                refine R_cV2I (q := 13) (ci := 7) (C := C_X7_isHere) rfl rfl rfl rfl rfl ⟨_, _, _, rfl, ⟨rfl, S0.pd pd, by rw [s0]; omega, by omega, by omega⟩⟩ rfl rfl (by omega) (fun x M' hc => ?_)
                replace hc := hc _ _ _ rfl
                obtain ⟨hc, rfl⟩ := hc
                unfold isH at hc
                rw [s0, t0, e0] at hc
                have hx : x = 1 := by omega
                subst hx
                refine R_if_ne (q := 16) (tgt := 21) rfl rfl (by decide) (by omega) (fun h13 => ?_) (fun h13 => ?_)
                · refine R_aload_n (q := 22) (i := 0) rfl rfl rfl rfl ?_
                  refine R_dup (q := 23) rfl rfl rfl ?_
                  refine R_getI (q := 26) (k1 := 5) rfl rfl rfl rfl rfl (by omega) rfl ?_
                  refine R_iconst (q := 27) rfl rfl ?_
                  refine R_iadd (q := 28) rfl rfl ?_
                  refine R_putI (q := 31) (k1 := 5) rfl rfl rfl rfl rfl (by omega) rfl rfl rfl rfl ?_
                  generalize hM1 : upM (upM M 11 5 0) 11 5 (upM M 11 5 0 11 5 + 1) = M1
                  have s1 : M1 11 5 = 1 := by rw [← hM1, upM_s, upM_s]; rfl
                  have S1 : Sp M M1 := hM1 ▸ S0.tr Sp.u5
                  have t1 := S1.1 4 (by omega) (by omega)
                  have e1 := S1.2 14 (by decide)
                  refine R_aload_n (q := 32) (i := 0) rfl rfl rfl rfl ?_
                  refine R_bipush (q := 34) rfl rfl (by decide) ?_
                  refine R_cV1I (q := 37) (ci := 7) (C := C_X7_takesSign) rfl rfl rfl rfl rfl ⟨_, _, rfl, ⟨rfl, S1.pd pd, by rw [s1]; omega, by omega⟩⟩ rfl rfl (by omega) (fun x M' hc => ?_)
                  replace hc := hc _ _ rfl
                  obtain ⟨hc, hm⟩ := hc
                  rw [s1, t1, e1] at hc
                  have hx : x = 1 := by omega
                  subst hx
                  have s2 : M' 11 5 = 2 := by rw [hm, upM_s, s1]; rfl
                  have S2 : Sp M M' := hm ▸ S1.tr Sp.u5
                  have t2 := S2.1 4 (by omega) (by omega)
                  have e2 := S2.2 14 (by decide)
                  refine R_if_eq (q := 40) (tgt := 67) rfl rfl (by decide) (by omega) (fun h37 => ?_) (fun h37 => ?_)
                  · omega
                  · refine R_aload_n (q := 41) (i := 0) rfl rfl rfl rfl ?_
                    refine R_cV0I (q := 44) (ci := 7) (C := C_X7_readsPaper) rfl rfl rfl rfl rfl ⟨_, rfl, ⟨rfl, S2.pd pd, by rw [s2]; omega, by rw [s2, t2]; omega⟩⟩ rfl rfl (by omega) (fun x M' hc => ?_)
                    replace hc := hc _ rfl
                    obtain ⟨hx, s3, h6, Sx⟩ := hc
                    rw [e2, t2, s2] at hx s3
                    rw [r1_eq] at hx s3
                    have b1 := rdp_bd (c := M 14) (n := M 11 4) 6 2 97 0 (by omega)
                    rw [r1_eq] at b1
                    have hx : x = 1 := by omega
                    subst hx
                    have S3 : Sp M M' := S2.tr Sx
                    have t3 := S3.1 4 (by omega) (by omega)
                    have e3 := S3.2 14 (by decide)
                    refine R_if_eq (q := 47) (tgt := 67) rfl rfl (by decide) (by omega) (fun h44 => ?_) (fun h44 => ?_)
                    · omega
                    · refine R_aload_n (q := 48) (i := 0) rfl rfl rfl rfl ?_
                      refine R_bipush (q := 50) rfl rfl (by decide) ?_
                      refine R_cV1I (q := 53) (ci := 7) (C := C_X7_takesSign) rfl rfl rfl rfl rfl ⟨_, _, rfl, ⟨rfl, S3.pd pd, by rw [s3]; omega, by omega⟩⟩ rfl rfl (by omega) (fun x M' hc => ?_)
                      replace hc := hc _ _ rfl
                      obtain ⟨hc, hm⟩ := hc
                      rw [s3, t3, e3] at hc
                      have hx : x = 1 := by omega
                      subst hx
                      have s4 : M' 11 5 = (r1 (M 14) (M 11 4)).2.1 + 1 := by rw [hm, upM_s, s3]
                      have S4 : Sp M M' := hm ▸ S3.tr Sp.u5
                      have t4 := S4.1 4 (by omega) (by omega)
                      have e4 := S4.2 14 (by decide)
                      refine R_if_eq (q := 56) (tgt := 67) rfl rfl (by decide) (by omega) (fun h53 => ?_) (fun h53 => ?_)
                      · omega
                      · refine R_aload_n (q := 57) (i := 0) rfl rfl rfl rfl ?_
                        refine R_cV0I (q := 60) (ci := 7) (C := C_X7_readsPaper) rfl rfl rfl rfl rfl ⟨_, rfl, ⟨rfl, S4.pd pd, by rw [s4]; omega, by rw [s4, t4]; omega⟩⟩ rfl rfl (by omega) (fun x M' hc => ?_)
                        replace hc := hc _ rfl
                        obtain ⟨hx, s5, h6, Sx⟩ := hc
                        rw [e4, t4, s4] at hx s5
                        rw [r2_eq] at hx s5
                        have b2 := rdp_bd (c := M 14) (n := M 11 4) 6 ((r1 (M 14) (M 11 4)).2.1 + 1) 97 0 (by omega)
                        rw [r2_eq] at b2
                        have hx : x = 1 := by omega
                        subst hx
                        have S5 : Sp M M' := S4.tr Sx
                        have t5 := S5.1 4 (by omega) (by omega)
                        have e5 := S5.2 14 (by decide)
                        refine R_if_eq (q := 63) (tgt := 67) rfl rfl (by decide) (by omega) (fun h60 => ?_) (fun h60 => ?_)
                        · omega
                        · refine R_iconst (q := 64) rfl rfl ?_
                          refine R_goto (q := 67) (tgt := 68) rfl rfl (by decide) ?_
                          refine R_istore_n (q := 69) (i := 1) rfl rfl rfl rfl ?_
                          refine R_iload_n (q := 70) (i := 1) rfl rfl rfl rfl ?_
                          refine R_if_eq (q := 73) (tgt := 87) rfl rfl (by decide) (by omega) (fun h70 => ?_) (fun h70 => ?_)
                          · omega
                          · refine R_aload_n (q := 74) (i := 0) rfl rfl rfl rfl ?_
                            refine R_bipush (q := 76) rfl rfl (by decide) ?_
                            refine R_cV1I (q := 79) (ci := 7) (C := C_X7_takesSign) rfl rfl rfl rfl rfl ⟨_, _, rfl, ⟨rfl, S5.pd pd, by rw [s5]; omega, by omega⟩⟩ rfl rfl (by omega) (fun x M' hc => ?_)
                            replace hc := hc _ _ rfl
                            obtain ⟨hc, hm⟩ := hc
                            rw [s5, t5, e5] at hc
                            have hx : x = 0 := by omega
                            subst hx
                            have s6 : M' 11 5 = (r2 (M 14) (M 11 4)).2.1 + 0 := by rw [hm, upM_s, s5]
                            have S6 : Sp M M' := hm ▸ S5.tr Sp.u5
                            have t6 := S6.1 4 (by omega) (by omega)
                            have e6 := S6.2 14 (by decide)
                            refine R_if_eq (q := 82) (tgt := 87) rfl rfl (by decide) (by omega) (fun h79 => ?_) (fun h79 => ?_)
                            · refine R_iload_n (q := 88) (i := 1) rfl rfl rfl rfl ?_
                              refine R_if_eq (q := 91) (tgt := 107) rfl rfl (by decide) (by omega) (fun h88 => ?_) (fun h88 => ?_)
                              · omega
                              · refine R_aload_n (q := 92) (i := 0) rfl rfl rfl rfl ?_
                                refine R_getI (q := 95) (k1 := 5) rfl rfl rfl rfl rfl (by omega) rfl ?_
                                refine R_aload_n (q := 96) (i := 0) rfl rfl rfl rfl ?_
                                refine R_getI (q := 99) (k1 := 4) rfl rfl rfl rfl rfl (by omega) rfl ?_
                                refine R_icmp_ne (q := 102) (tgt := 107) rfl rfl (by decide) (by omega) (by omega) (fun h99 => ?_) (fun h99 => ?_)
                                · refine R_aload_n (q := 108) (i := 0) rfl rfl rfl rfl ?_
                                  refine R_getI (q := 111) (k1 := 5) rfl rfl rfl rfl rfl (by omega) rfl ?_
                                  refine R_ret rfl (Or.inl rfl) ?_
                                  rw [if_neg (not_not_intro HA), if_neg (not_not_intro HB), if_neg HR, if_neg (not_not_intro HC), if_neg HS, if_neg HE, if_neg HN]
                                  exact ⟨s6.trans (Int.add_zero _), S6⟩
                                · exact False.elim (h99 (fun z => HN ((s6.trans (Int.add_zero _)).symm.trans (z.trans t6))))
                            · omega
                · omega
        · refine R_aload_n (q := 1) (i := 0) rfl rfl rfl rfl ?_
          refine R_iconst (q := 2) rfl rfl ?_
          refine R_putI (q := 5) (k1 := 5) rfl rfl rfl rfl rfl (by omega) rfl rfl rfl rfl ?_
          refine R_aload_n (q := 6) (i := 0) rfl rfl rfl rfl ?_
          refine R_bipush (q := 8) rfl rfl (by decide) ?_
          refine R_bipush (q := 10) rfl rfl (by decide) ?_
          refine R_cV2I (q := 13) (ci := 7) (C := C_X7_isHere) rfl rfl rfl rfl rfl ⟨_, _, _, rfl, ⟨rfl, S0.pd pd, by rw [s0]; omega, by omega, by omega⟩⟩ rfl rfl (by omega) (fun x M' hc => ?_)
          replace hc := hc _ _ _ rfl
          obtain ⟨hc, rfl⟩ := hc
          unfold isH at hc
          rw [s0, t0, e0] at hc
          have hx : x = 1 := by omega
          subst hx
          refine R_if_ne (q := 16) (tgt := 21) rfl rfl (by decide) (by omega) (fun h13 => ?_) (fun h13 => ?_)
          · refine R_aload_n (q := 22) (i := 0) rfl rfl rfl rfl ?_
            refine R_dup (q := 23) rfl rfl rfl ?_
            refine R_getI (q := 26) (k1 := 5) rfl rfl rfl rfl rfl (by omega) rfl ?_
            refine R_iconst (q := 27) rfl rfl ?_
            refine R_iadd (q := 28) rfl rfl ?_
            refine R_putI (q := 31) (k1 := 5) rfl rfl rfl rfl rfl (by omega) rfl rfl rfl rfl ?_
            generalize hM1 : upM (upM M 11 5 0) 11 5 (upM M 11 5 0 11 5 + 1) = M1
            have s1 : M1 11 5 = 1 := by rw [← hM1, upM_s, upM_s]; rfl
            have S1 : Sp M M1 := hM1 ▸ S0.tr Sp.u5
            have t1 := S1.1 4 (by omega) (by omega)
            have e1 := S1.2 14 (by decide)
            refine R_aload_n (q := 32) (i := 0) rfl rfl rfl rfl ?_
            refine R_bipush (q := 34) rfl rfl (by decide) ?_
            refine R_cV1I (q := 37) (ci := 7) (C := C_X7_takesSign) rfl rfl rfl rfl rfl ⟨_, _, rfl, ⟨rfl, S1.pd pd, by rw [s1]; omega, by omega⟩⟩ rfl rfl (by omega) (fun x M' hc => ?_)
            replace hc := hc _ _ rfl
            obtain ⟨hc, hm⟩ := hc
            rw [s1, t1, e1] at hc
            have hx : x = 1 := by omega
            subst hx
            have s2 : M' 11 5 = 2 := by rw [hm, upM_s, s1]; rfl
            have S2 : Sp M M' := hm ▸ S1.tr Sp.u5
            have t2 := S2.1 4 (by omega) (by omega)
            have e2 := S2.2 14 (by decide)
            refine R_if_eq (q := 40) (tgt := 67) rfl rfl (by decide) (by omega) (fun h37 => ?_) (fun h37 => ?_)
            · omega
            · refine R_aload_n (q := 41) (i := 0) rfl rfl rfl rfl ?_
              refine R_cV0I (q := 44) (ci := 7) (C := C_X7_readsPaper) rfl rfl rfl rfl rfl ⟨_, rfl, ⟨rfl, S2.pd pd, by rw [s2]; omega, by rw [s2, t2]; omega⟩⟩ rfl rfl (by omega) (fun x M' hc => ?_)
              replace hc := hc _ rfl
              obtain ⟨hx, s3, h6, Sx⟩ := hc
              rw [e2, t2, s2] at hx s3
              rw [r1_eq] at hx s3
              have b1 := rdp_bd (c := M 14) (n := M 11 4) 6 2 97 0 (by omega)
              rw [r1_eq] at b1
              have hx : x = 1 := by omega
              subst hx
              have S3 : Sp M M' := S2.tr Sx
              have t3 := S3.1 4 (by omega) (by omega)
              have e3 := S3.2 14 (by decide)
              refine R_if_eq (q := 47) (tgt := 67) rfl rfl (by decide) (by omega) (fun h44 => ?_) (fun h44 => ?_)
              · omega
              · refine R_aload_n (q := 48) (i := 0) rfl rfl rfl rfl ?_
                refine R_bipush (q := 50) rfl rfl (by decide) ?_
                refine R_cV1I (q := 53) (ci := 7) (C := C_X7_takesSign) rfl rfl rfl rfl rfl ⟨_, _, rfl, ⟨rfl, S3.pd pd, by rw [s3]; omega, by omega⟩⟩ rfl rfl (by omega) (fun x M' hc => ?_)
                replace hc := hc _ _ rfl
                obtain ⟨hc, hm⟩ := hc
                rw [s3, t3, e3] at hc
                have hx : x = 0 := by omega
                subst hx
                have s4 : M' 11 5 = (r1 (M 14) (M 11 4)).2.1 + 0 := by rw [hm, upM_s, s3]
                have S4 : Sp M M' := hm ▸ S3.tr Sp.u5
                have t4 := S4.1 4 (by omega) (by omega)
                have e4 := S4.2 14 (by decide)
                refine R_if_eq (q := 56) (tgt := 67) rfl rfl (by decide) (by omega) (fun h53 => ?_) (fun h53 => ?_)
                · refine R_iconst (q := 68) rfl rfl ?_
                  refine R_istore_n (q := 69) (i := 1) rfl rfl rfl rfl ?_
                  refine R_iload_n (q := 70) (i := 1) rfl rfl rfl rfl ?_
                  refine R_if_eq (q := 73) (tgt := 87) rfl rfl (by decide) (by omega) (fun h70 => ?_) (fun h70 => ?_)
                  · refine R_iload_n (q := 88) (i := 1) rfl rfl rfl rfl ?_
                    refine R_if_eq (q := 91) (tgt := 107) rfl rfl (by decide) (by omega) (fun h88 => ?_) (fun h88 => ?_)
                    · refine R_aload_n (q := 108) (i := 0) rfl rfl rfl rfl ?_
                      refine R_getI (q := 111) (k1 := 5) rfl rfl rfl rfl rfl (by omega) rfl ?_
                      refine R_ret rfl (Or.inl rfl) ?_
                      rw [if_neg (not_not_intro HA), if_neg (not_not_intro HB), if_neg HR, if_pos HC]
                      exact ⟨s4.trans (Int.add_zero _), S4⟩
                    · omega
                  · omega
                · omega
          · omega
    · refine R_aload_n (q := 1) (i := 0) rfl rfl rfl rfl ?_
      refine R_iconst (q := 2) rfl rfl ?_
      refine R_putI (q := 5) (k1 := 5) rfl rfl rfl rfl rfl (by omega) rfl rfl rfl rfl ?_
      refine R_aload_n (q := 6) (i := 0) rfl rfl rfl rfl ?_
      refine R_bipush (q := 8) rfl rfl (by decide) ?_
      refine R_bipush (q := 10) rfl rfl (by decide) ?_
      refine R_cV2I (q := 13) (ci := 7) (C := C_X7_isHere) rfl rfl rfl rfl rfl ⟨_, _, _, rfl, ⟨rfl, S0.pd pd, by rw [s0]; omega, by omega, by omega⟩⟩ rfl rfl (by omega) (fun x M' hc => ?_)
      replace hc := hc _ _ _ rfl
      obtain ⟨hc, rfl⟩ := hc
      unfold isH at hc
      rw [s0, t0, e0] at hc
      have hx : x = 1 := by omega
      subst hx
      refine R_if_ne (q := 16) (tgt := 21) rfl rfl (by decide) (by omega) (fun h13 => ?_) (fun h13 => ?_)
      · refine R_aload_n (q := 22) (i := 0) rfl rfl rfl rfl ?_
        refine R_dup (q := 23) rfl rfl rfl ?_
        refine R_getI (q := 26) (k1 := 5) rfl rfl rfl rfl rfl (by omega) rfl ?_
        refine R_iconst (q := 27) rfl rfl ?_
        refine R_iadd (q := 28) rfl rfl ?_
        refine R_putI (q := 31) (k1 := 5) rfl rfl rfl rfl rfl (by omega) rfl rfl rfl rfl ?_
        generalize hM1 : upM (upM M 11 5 0) 11 5 (upM M 11 5 0 11 5 + 1) = M1
        have s1 : M1 11 5 = 1 := by rw [← hM1, upM_s, upM_s]; rfl
        have S1 : Sp M M1 := hM1 ▸ S0.tr Sp.u5
        have t1 := S1.1 4 (by omega) (by omega)
        have e1 := S1.2 14 (by decide)
        refine R_aload_n (q := 32) (i := 0) rfl rfl rfl rfl ?_
        refine R_bipush (q := 34) rfl rfl (by decide) ?_
        refine R_cV1I (q := 37) (ci := 7) (C := C_X7_takesSign) rfl rfl rfl rfl rfl ⟨_, _, rfl, ⟨rfl, S1.pd pd, by rw [s1]; omega, by omega⟩⟩ rfl rfl (by omega) (fun x M' hc => ?_)
        replace hc := hc _ _ rfl
        obtain ⟨hc, hm⟩ := hc
        rw [s1, t1, e1] at hc
        have hx : x = 0 := by omega
        subst hx
        have s2 : M' 11 5 = 1 := by rw [hm, upM_s, s1]; rfl
        have S2 : Sp M M' := hm ▸ S1.tr Sp.u5
        have t2 := S2.1 4 (by omega) (by omega)
        have e2 := S2.2 14 (by decide)
        refine R_if_eq (q := 40) (tgt := 67) rfl rfl (by decide) (by omega) (fun h37 => ?_) (fun h37 => ?_)
        · refine R_iconst (q := 68) rfl rfl ?_
          refine R_istore_n (q := 69) (i := 1) rfl rfl rfl rfl ?_
          refine R_iload_n (q := 70) (i := 1) rfl rfl rfl rfl ?_
          refine R_if_eq (q := 73) (tgt := 87) rfl rfl (by decide) (by omega) (fun h70 => ?_) (fun h70 => ?_)
          · refine R_iload_n (q := 88) (i := 1) rfl rfl rfl rfl ?_
            refine R_if_eq (q := 91) (tgt := 107) rfl rfl (by decide) (by omega) (fun h88 => ?_) (fun h88 => ?_)
            · refine R_aload_n (q := 108) (i := 0) rfl rfl rfl rfl ?_
              refine R_getI (q := 111) (k1 := 5) rfl rfl rfl rfl rfl (by omega) rfl ?_
              refine R_ret rfl (Or.inl rfl) ?_
              rw [if_neg (not_not_intro HA), if_pos HB]
              exact ⟨s2, S2⟩
            · omega
          · omega
        · omega
      · omega
  · refine R_aload_n (q := 1) (i := 0) rfl rfl rfl rfl ?_
    refine R_iconst (q := 2) rfl rfl ?_
    refine R_putI (q := 5) (k1 := 5) rfl rfl rfl rfl rfl (by omega) rfl rfl rfl rfl ?_
    refine R_aload_n (q := 6) (i := 0) rfl rfl rfl rfl ?_
    refine R_bipush (q := 8) rfl rfl (by decide) ?_
    refine R_bipush (q := 10) rfl rfl (by decide) ?_
    refine R_cV2I (q := 13) (ci := 7) (C := C_X7_isHere) rfl rfl rfl rfl rfl ⟨_, _, _, rfl, ⟨rfl, S0.pd pd, by rw [s0]; omega, by omega, by omega⟩⟩ rfl rfl (by omega) (fun x M' hc => ?_)
    replace hc := hc _ _ _ rfl
    obtain ⟨hc, rfl⟩ := hc
    unfold isH at hc
    rw [s0, t0, e0] at hc
    have hx : x = 0 := by omega
    subst hx
    refine R_if_ne (q := 16) (tgt := 21) rfl rfl (by decide) (by omega) (fun h13 => ?_) (fun h13 => ?_)
    · omega
    · refine R_aload_n (q := 17) (i := 0) rfl rfl rfl rfl ?_
      refine R_getI (q := 20) (k1 := 5) rfl rfl rfl rfl rfl (by omega) rfl ?_
      refine R_ret rfl (Or.inl rfl) ?_
      rw [if_pos HA]
      exact ⟨s0, S0⟩
set_option maxRecDepth 100000 in
theorem mt_X7_fault : MtOK yX7_fault cX7_fault 2 (some .int) 3 C_X7_fault := by
  refine mt_of sx_X7_fault (by decide +kernel) (Or.inl ⟨rfl, rfl, rfl⟩) (by decide +kernel) fdX7_ok kLX7_ok kIX7_ok sgX7_ok ntX7_ok
    (all_cons (clokV mt_X7_isHere rfl (GT_at 637 (by decide +kernel) (by decide +kernel)) (GT_at 44 (by decide +kernel) (by decide +kernel)) (GT_at 640 (by decide +kernel) (by decide +kernel)) (by decide +kernel) (by decide) (GT_at 639 (by decide +kernel) (by decide +kernel)) (GT_at 13 (by decide +kernel) (by decide +kernel)) rfl rfl) (all_cons (clokV mt_X7_takesSign rfl (GT_at 641 (by decide +kernel) (by decide +kernel)) (GT_at 44 (by decide +kernel) (by decide +kernel)) (GT_at 644 (by decide +kernel) (by decide +kernel)) (by decide +kernel) (by decide) (GT_at 643 (by decide +kernel) (by decide +kernel)) (GT_at 14 (by decide +kernel) (by decide +kernel)) rfl rfl) (all_cons (clokV mt_X7_readsPaper rfl (GT_at 648 (by decide +kernel) (by decide +kernel)) (GT_at 44 (by decide +kernel) (by decide +kernel)) (GT_at 651 (by decide +kernel) (by decide +kernel)) (by decide +kernel) (by decide) (GT_at 650 (by decide +kernel) (by decide +kernel)) (GT_at 15 (by decide +kernel) (by decide +kernel)) rfl rfl) (all_nil)))) ?_ ?_
  · rintro as M - ⟨o, rfl, hp⟩
    exact Nat.le_of_ble_eq_true rfl
  · rintro L scr as M - ⟨o, rfl, hp⟩
    exact Runs.mono (fun x M' h _ e => by cases e; exact h) (ok_X7_fault L scr o M hp)
