/-! THE LAW -/
def sx_L_law : Sx2 := (tb_L_law, kLL, kIL, [(62, D_count), (36, D_read), (102, D_undo)], [(98, C_L_trunks), (112, C_L_turns), (116, C_L_cell), (94, C_L_print), (32, C_L_types), (120, C_L_act), (16, C_L_low), (123, C_L_goes), (127, C_L_hand), (130, C_L_small)], 2)
theorem Pst_tr {N M M' : Mem} {x : Int} (s : Sme N M) (P : Pst M M' x) : Pst N M' x := by
  unfold Pst SmP ChP at P ⊢
  rw [s.e12, s.e11] at P
  exact P
theorem Pst_o {M M' : Mem} {x : Int} (O : Ok2 (M 12)) (P : Pst M M' x) : GI M' ∧ Ok2 (M' 12) ∧ M' 12 6 ≤ M 12 6 + 30 := by
  rcases P.2 with ⟨-, g, e, -⟩ | ⟨-, g, ⟨h, e, -⟩, O2, h6⟩
  · refine ⟨g, ?_⟩
    rw [e]
    exact ⟨O, by omega⟩
  · refine ⟨h, ?_⟩
    rw [e]
    exact ⟨O2, h6⟩
set_option maxRecDepth 100000 in
set_option maxHeartbeats 4000000 in
theorem law_e (L : Nat) (scr : Int → Int) (b : Nat) (hB : b + 3 ≤ 200) (k a c : Int) (l6 l7 l8 l9 : PV) (N : Mem) (hk : 0 ≤ k ∧ k < 42) (g : GI N) (O : Ok2 (N 12)) (h6 : N 12 6 ≤ 2000) (K : ∀ N', GI N' → N' 12 = N 12 → Run2 sx_L_law L (xcF scr) false 200 (fun x _ => x = 1) (b + 1 + 1 + 1) 32 [wR 0, wR 3, wI 1, wI (k + 1), wI a, wI c, l6, l7, l8, l9] [] N') : Run2 sx_L_law L (xcF scr) false 200 (fun x _ => x = 1) b 245 [wR 0, wR 3, wI 1, wI k, wI a, wI c, l6, l7, l8, l9] [] N := by
  have hb0 : Nat.ble b 200 = true := Nat.ble_eq_true_of_le (by omega)
  have hb1 : Nat.ble (b + 1) 200 = true := Nat.ble_eq_true_of_le (by omega)
  have hb2 : Nat.ble (b + 1 + 1) 200 = true := Nat.ble_eq_true_of_le (by omega)
  have hb3 : Nat.ble (b + 1 + 1 + 1) 200 = true := Nat.ble_eq_true_of_le (by omega)
  have r4 : 0 ≤ i32rem k 4 ∧ i32rem k 4 < 4 := by
    rw [i32rem_of hk.1 (by omega) (by omega) (by omega)]
    omega
  have r10 : 0 ≤ i32rem k 10 ∧ i32rem k 10 < 10 := by
    rw [i32rem_of hk.1 (by omega) (by omega) (by omega)]
    omega
  have c12 := lowF_bd (xishr c 3) (n := 12) (by omega) (by omega)
  have d12 := lowF_bd (xishr c 6) (n := 12) (by omega) (by omega)
  have a14 := lowF_bd (xishr a 5) (n := 14) (by omega) (by omega)
  refine T_iload_n (q := 246) (i := 2) (by assumption) rfl rfl rfl rfl ?_
  refine T_if_eq (q := 249) (tgt := 331) (by assumption) rfl rfl (by decide) (by omega) (fun h246 => ?_) (fun h246 => ?_)
  · omega
  · refine T_aload_n (q := 250) (i := 1) (by assumption) rfl rfl rfl rfl ?_
    refine T_L1I (q := 253) (b2 := b + 1) (C := C_L_trunks) (by assumption) rfl rfl rfl rfl rfl ⟨_, rfl, ⟨rfl, g, O⟩⟩ rfl rfl rfl (by assumption) (fun x M' hc => ?_)
    replace hc := hc _ rfl
    obtain ⟨rfl, sm⟩ := hc
    have O1 : Ok2 (M' 12) := by
      rw [sm.e12]
      exact O
    have h61 : M' 12 6 ≤ 2000 := by
      rw [sm.e12]
      exact h6
    refine T_if_eq (q := 256) (tgt := 331) (by assumption) rfl rfl (by decide) (by omega) (fun h253 => ?_) (fun h253 => ?_)
    · omega
    · refine T_aload_n (q := 257) (i := 1) (by assumption) rfl rfl rfl rfl ?_
      refine T_iconst (q := 258) (by assumption) rfl rfl ?_
      refine T_iload (q := 260) (by assumption) rfl rfl rfl ?_
      refine T_iconst (q := 261) (by assumption) rfl rfl ?_
      refine T_ishr (q := 262) (by assumption) rfl rfl ?_
      refine T_bipush (q := 264) (by assumption) rfl rfl (by decide) ?_
      refine T_L2I (q := 267) (b2 := b + 1) (C := C_L_low) (by assumption) rfl rfl rfl rfl rfl ⟨_, _, rfl, ⟨by omega, by omega⟩⟩ rfl rfl rfl (by assumption) (fun x M' hc => ?_)
      replace hc := hc _ _ rfl
      obtain ⟨rfl, rfl⟩ := hc
      refine T_iadd (q := 268) (by assumption) rfl rfl ?_
      refine T_iload (q := 270) (by assumption) rfl rfl rfl ?_
      refine T_iconst (q := 271) (by assumption) rfl rfl ?_
      refine T_ishr (q := 272) (by assumption) rfl rfl ?_
      refine T_bipush (q := 274) (by assumption) rfl rfl (by decide) ?_
      refine T_L2I (q := 277) (b2 := b + 1) (C := C_L_low) (by assumption) rfl rfl rfl rfl rfl ⟨_, _, rfl, ⟨by omega, by omega⟩⟩ rfl rfl rfl (by assumption) (fun x M' hc => ?_)
      replace hc := hc _ _ rfl
      obtain ⟨rfl, rfl⟩ := hc
      refine T_L3I (q := 280) (b2 := b + 1 + 1) (C := C_L_turns) (by assumption) rfl rfl rfl rfl rfl ⟨_, _, _, rfl, ⟨rfl, sm.1, O1, ⟨by omega, by omega⟩, ⟨by omega, by omega⟩, by omega⟩⟩ rfl rfl rfl (by assumption) (fun x M' hc => ?_)
      replace hc := hc _ _ _ rfl
      obtain ⟨rfl, g2, e2⟩ := hc
      have O2 : Ok2 (M' 12) := by
        rw [e2]
        exact O1
      refine T_if_eq (q := 283) (tgt := 331) (by assumption) rfl rfl (by decide) (by omega) (fun h280 => ?_) (fun h280 => ?_)
      · omega
      · refine T_aload_n (q := 284) (i := 1) (by assumption) rfl rfl rfl rfl ?_
        refine T_iload (q := 286) (by assumption) rfl rfl rfl ?_
        refine T_bipush (q := 288) (by assumption) rfl rfl (by decide) ?_
        refine T_ishr (q := 289) (by assumption) rfl rfl ?_
        refine T_bipush (q := 291) (by assumption) rfl rfl (by decide) ?_
        refine T_L2I (q := 294) (b2 := b + 1 + 1) (C := C_L_low) (by assumption) rfl rfl rfl rfl rfl ⟨_, _, rfl, ⟨by omega, by omega⟩⟩ rfl rfl rfl (by assumption) (fun x M' hc => ?_)
        replace hc := hc _ _ rfl
        obtain ⟨rfl, rfl⟩ := hc
        refine T_L2I (q := 297) (b2 := b + 1 + 1 + 1) (C := C_L_goes) (by assumption) rfl rfl rfl rfl rfl ⟨_, _, rfl, ⟨rfl, g2, O2, by omega, by omega⟩⟩ rfl rfl rfl (by assumption) (fun x M' hc => ?_)
        replace hc := hc _ _ rfl
        obtain ⟨rfl, g3, e3⟩ := hc
        have E3 : M' 12 = N 12 := e3.trans (e2.trans sm.e12)
        have O3 : Ok2 (M' 12) := by
          rw [E3]
          exact O
        refine T_if_eq (q := 300) (tgt := 331) (by assumption) rfl rfl (by decide) (by omega) (fun h297 => ?_) (fun h297 => ?_)
        · omega
        · refine T_iload_n (q := 301) (i := 3) (by assumption) rfl rfl rfl rfl ?_
          refine T_iconst (q := 302) (by assumption) rfl rfl ?_
          refine T_irem (q := 303) (by assumption) rfl rfl (by decide) ?_
          refine T_if_gt (q := 306) (tgt := 313) (by assumption) rfl rfl (by decide) (by omega) (fun h303 => ?_) (fun h303 => ?_)
          · refine T_iload_n (q := 314) (i := 3) (by assumption) rfl rfl rfl rfl ?_
            refine T_bipush (q := 316) (by assumption) rfl rfl (by decide) ?_
            refine T_irem (q := 317) (by assumption) rfl rfl (by decide) ?_
            refine T_if_gt (q := 320) (tgt := 327) (by assumption) rfl rfl (by decide) (by omega) (fun h317 => ?_) (fun h317 => ?_)
            · refine T_iconst (q := 328) (by assumption) rfl rfl ?_
              refine T_goto (q := 331) (tgt := 332) (by assumption) rfl rfl (by decide) ?_
              refine T_istore_n (q := 333) (i := 2) (by assumption) rfl rfl rfl rfl ?_
              refine T_iinc (q := 336) (by assumption) rfl rfl rfl rfl ?_
              refine T_goto (q := 339) (tgt := 32) (by assumption) rfl rfl (by decide) ?_
              exact K _ g3 E3
            · refine T_aload_n (q := 321) (i := 1) (by assumption) rfl rfl rfl rfl ?_
              refine T_L1I (q := 324) (b2 := b + 1 + 1 + 1) (C := C_L_small) (by assumption) rfl rfl rfl rfl rfl ⟨_, rfl, ⟨rfl, g3, O3⟩⟩ rfl rfl rfl (by assumption) (fun x M' hc => ?_)
              replace hc := hc _ rfl
              obtain ⟨rfl, g3, e4⟩ := hc
              replace E3 := e4.trans E3
              refine T_if_eq (q := 327) (tgt := 331) (by assumption) rfl rfl (by decide) (by omega) (fun h324 => ?_) (fun h324 => ?_)
              · omega
              · refine T_iconst (q := 328) (by assumption) rfl rfl ?_
                refine T_goto (q := 331) (tgt := 332) (by assumption) rfl rfl (by decide) ?_
                refine T_istore_n (q := 333) (i := 2) (by assumption) rfl rfl rfl rfl ?_
                refine T_iinc (q := 336) (by assumption) rfl rfl rfl rfl ?_
                refine T_goto (q := 339) (tgt := 32) (by assumption) rfl rfl (by decide) ?_
                exact K _ g3 E3
          · refine T_aload_n (q := 307) (i := 1) (by assumption) rfl rfl rfl rfl ?_
            refine T_L1I (q := 310) (b2 := b + 1 + 1 + 1) (C := C_L_hand) (by assumption) rfl rfl rfl rfl rfl ⟨_, rfl, ⟨rfl, g3, O3⟩⟩ rfl rfl rfl (by assumption) (fun x M' hc => ?_)
            replace hc := hc _ rfl
            obtain ⟨rfl, g3, e4⟩ := hc
            replace E3 := e4.trans E3
            have O3 : Ok2 (M' 12) := by
              rw [E3]
              exact O
            refine T_if_eq (q := 313) (tgt := 331) (by assumption) rfl rfl (by decide) (by omega) (fun h310 => ?_) (fun h310 => ?_)
            · omega
            · refine T_iload_n (q := 314) (i := 3) (by assumption) rfl rfl rfl rfl ?_
              refine T_bipush (q := 316) (by assumption) rfl rfl (by decide) ?_
              refine T_irem (q := 317) (by assumption) rfl rfl (by decide) ?_
              refine T_if_gt (q := 320) (tgt := 327) (by assumption) rfl rfl (by decide) (by omega) (fun h317 => ?_) (fun h317 => ?_)
              · refine T_iconst (q := 328) (by assumption) rfl rfl ?_
                refine T_goto (q := 331) (tgt := 332) (by assumption) rfl rfl (by decide) ?_
                refine T_istore_n (q := 333) (i := 2) (by assumption) rfl rfl rfl rfl ?_
                refine T_iinc (q := 336) (by assumption) rfl rfl rfl rfl ?_
                refine T_goto (q := 339) (tgt := 32) (by assumption) rfl rfl (by decide) ?_
                exact K _ g3 E3
              · refine T_aload_n (q := 321) (i := 1) (by assumption) rfl rfl rfl rfl ?_
                refine T_L1I (q := 324) (b2 := b + 1 + 1 + 1) (C := C_L_small) (by assumption) rfl rfl rfl rfl rfl ⟨_, rfl, ⟨rfl, g3, O3⟩⟩ rfl rfl rfl (by assumption) (fun x M' hc => ?_)
                replace hc := hc _ rfl
                obtain ⟨rfl, g3, e4⟩ := hc
                replace E3 := e4.trans E3
                refine T_if_eq (q := 327) (tgt := 331) (by assumption) rfl rfl (by decide) (by omega) (fun h324 => ?_) (fun h324 => ?_)
                · omega
                · refine T_iconst (q := 328) (by assumption) rfl rfl ?_
                  refine T_goto (q := 331) (tgt := 332) (by assumption) rfl rfl (by decide) ?_
                  refine T_istore_n (q := 333) (i := 2) (by assumption) rfl rfl rfl rfl ?_
                  refine T_iinc (q := 336) (by assumption) rfl rfl rfl rfl ?_
                  refine T_goto (q := 339) (tgt := 32) (by assumption) rfl rfl (by decide) ?_
                  exact K _ g3 E3
set_option maxRecDepth 100000 in
set_option maxHeartbeats 4000000 in
theorem law_m (L : Nat) (scr : Int → Int) (b : Nat) (hB : b + 3 ≤ 200) (k a c told : Int) (l9 : PV) (N N1 : Mem) (hk : 0 ≤ k ∧ k < 42) (g : GI N) (O : Ok2 (N 12)) (h6 : N 12 6 ≤ 30 * k) (ht : 3 < k → told = actV a c (N 12)) (P : Pst N N1 told) (K : ∀ N', GI N' → Ok2 (N' 12) → N' 12 6 ≤ 30 * k + 30 → Run2 sx_L_law L (xcF scr) false 200 (fun x _ => x = 1) (b + 1 + 1 + 1) 32 [wR 0, wR 3, wI 1, wI (k + 1), wI a, wI c, wI (N 11 1), wL (prV (N 12)), none, wI told] [] N') : Run2 sx_L_law L (xcF scr) false 200 (fun x _ => x = 1) b 111 [wR 0, wR 3, wI 1, wI k, wI a, wI c, wI (N 11 1), wL (prV (N 12)), none, l9] [wI told] N1 := by
  have hb0 : Nat.ble b 200 = true := Nat.ble_eq_true_of_le (by omega)
  have hs4 := g.2.2.1
  have F := Pst_o O P
  have F6 := F.2.2
  have c4 := lowF_bd (xishr c 5) (n := 4) (by omega) (by omega)
  obtain ⟨ir, P⟩ := P
  rcases P with ⟨z, g1, e12, e11⟩ | ⟨z, G, ⟨g1, e12, e11, hn, hh⟩, OG, h6G⟩
  · have s := Sme.rf g1
    refine T_istore (q := 113) (by assumption) rfl rfl rfl ?_
    refine T_iload (q := 115) (by assumption) rfl rfl rfl ?_
    refine T_if_ge (q := 118) (tgt := 148) (by assumption) rfl rfl (by decide) ir (fun h115 => ?_) (fun h115 => ?_)
    · omega
    · refine T_aload_n (q := 119) (i := 1) (by assumption) rfl rfl rfl rfl ?_
      refine T_bipush (q := 121) (by assumption) rfl rfl (by decide) ?_
      refine O_count (q := 124) s (by assumption) rfl rfl rfl (by decide) (cnV_18 _ _) rfl (fun M' s => ?_)
      refine T_iload (q := 126) (by assumption) rfl rfl rfl ?_
      refine T_icmp_ne (q := 129) (tgt := 143) (by assumption) rfl rfl (by decide) (by omega) (by omega) (fun h126 => ?_) (fun h126 => ?_)
      · omega
      · refine T_aload_n (q := 130) (i := 1) (by assumption) rfl rfl rfl rfl ?_
        refine T_L1L (q := 133) (b2 := b) (C := C_L_print) (by assumption) rfl rfl rfl rfl rfl ⟨_, rfl, ⟨rfl, s.1⟩⟩ rfl rfl rfl (by assumption) (fun x M' hc => ?_)
        replace hc := hc _ rfl
        obtain ⟨e, sm⟩ := hc
        rw [s.e12, e12] at e
        subst e
        replace s := s.tr sm
        refine T_lload (q := 135) (by assumption) rfl rfl rfl ?_
        refine T_lcmpS (q := 136) (by assumption) rfl rfl ?_
        refine T_if_ne (q := 139) (tgt := 143) (by assumption) rfl rfl (by decide) (by omega) (fun h136 => ?_) (fun h136 => ?_)
        · omega
        · refine T_iconst (q := 140) (by assumption) rfl rfl ?_
          refine T_goto (q := 143) (tgt := 144) (by assumption) rfl rfl (by decide) ?_
          refine T_istore_n (q := 145) (i := 2) (by assumption) rfl rfl rfl rfl ?_
          refine T_goto (q := 148) (tgt := 245) (by assumption) rfl rfl (by decide) ?_
          exact law_e L scr b hB k a c _ _ _ _ _ hk s.1 (by rw [s.e12]; exact F.2.1) (by rw [s.e12]; omega) (fun N' g' e' => K N' g' (by rw [e', s.e12]; exact F.2.1) (by rw [e', s.e12]; omega))
  · have s := Sme.rf g1
    have e11' : (N 11 1 = 4 ∧ N1 11 1 = 4) ∨ (N 11 1 ≠ 4 ∧ N1 11 1 = N 11 1 + 1) := by
      by_cases y : N 11 1 = 4
      · rw [if_pos y] at e11
        exact Or.inl ⟨y, e11⟩
      · rw [if_neg y] at e11
        exact Or.inr ⟨y, e11⟩
    clear e11
    refine T_istore (q := 113) (by assumption) rfl rfl rfl ?_
    refine T_iload (q := 115) (by assumption) rfl rfl rfl ?_
    refine T_if_ge (q := 118) (tgt := 148) (by assumption) rfl rfl (by decide) ir (fun h115 => ?_) (fun h115 => ?_)
    · refine T_aload_n (q := 149) (i := 1) (by assumption) rfl rfl rfl rfl ?_
      refine T_bipush (q := 151) (by assumption) rfl rfl (by decide) ?_
      refine O_count (q := 154) s (by assumption) rfl rfl rfl (by decide) (cnV_18 _ _) rfl (fun M' s => ?_)
      refine T_iload (q := 156) (by assumption) rfl rfl rfl ?_
      refine T_iconst (q := 157) (by assumption) rfl rfl ?_
      refine T_icmp_ge (q := 160) (tgt := 167) (by assumption) rfl rfl (by decide) (by omega) (by omega) (fun h157 => ?_) (fun h157 => ?_)
      · refine T_iconst (q := 168) (by assumption) rfl rfl ?_
        refine T_icmp_ne (q := 171) (tgt := 175) (by assumption) rfl rfl (by decide) (by omega) (by omega) (fun h168 => ?_) (fun h168 => ?_)
        · omega
        · refine T_iconst (q := 172) (by assumption) rfl rfl ?_
          refine T_goto (q := 175) (tgt := 176) (by assumption) rfl rfl (by decide) ?_
          refine T_istore_n (q := 177) (i := 2) (by assumption) rfl rfl rfl rfl ?_
          refine T_iload_n (q := 178) (i := 2) (by assumption) rfl rfl rfl rfl ?_
          refine T_if_eq (q := 181) (tgt := 245) (by assumption) rfl rfl (by decide) (by omega) (fun h178 => ?_) (fun h178 => ?_)
          · omega
          · refine T_iload_n (q := 182) (i := 3) (by assumption) rfl rfl rfl rfl ?_
            refine T_iconst (q := 183) (by assumption) rfl rfl ?_
            refine T_icmp_le (q := 186) (tgt := 245) (by assumption) rfl rfl (by decide) (by omega) (by omega) (fun h183 => ?_) (fun h183 => ?_)
            · exact law_e L scr b hB k a c _ _ _ _ _ hk s.1 (by rw [s.e12]; exact F.2.1) (by rw [s.e12]; omega) (fun N' g' e' => K N' g' (by rw [e', s.e12]; exact F.2.1) (by rw [e', s.e12]; omega))
            · refine T_iload (q := 188) (by assumption) rfl rfl rfl ?_
              refine T_iconst (q := 189) (by assumption) rfl rfl ?_
              refine T_ishr (q := 190) (by assumption) rfl rfl ?_
              refine T_iconst (q := 191) (by assumption) rfl rfl ?_
              refine T_L2I (q := 194) (b2 := b) (C := C_L_low) (by assumption) rfl rfl rfl rfl rfl ⟨_, _, rfl, ⟨by omega, by omega⟩⟩ rfl rfl rfl (by assumption) (fun x M' hc => ?_)
              replace hc := hc _ _ rfl
              obtain ⟨rfl, rfl⟩ := hc
              refine T_if_ne (q := 197) (tgt := 245) (by assumption) rfl rfl (by decide) (by omega) (fun h194 => ?_) (fun h194 => ?_)
              · exact law_e L scr b hB k a c _ _ _ _ _ hk s.1 (by rw [s.e12]; exact F.2.1) (by rw [s.e12]; omega) (fun N' g' e' => K N' g' (by rw [e', s.e12]; exact F.2.1) (by rw [e', s.e12]; omega))
              · refine T_aload_n (q := 198) (i := 1) (by assumption) rfl rfl rfl rfl ?_
                refine T_C0 (q := 201) (C := D_undo) (by assumption) rfl rfl rfl rfl ⟨rfl, ⟨s.1, by rw [s.e11]; omega⟩⟩ rfl (fun x M' hc => ?_)
                replace hc := hc rfl
                obtain ⟨e, U⟩ := hc
                rw [s.e11] at e
                subst e
                have E : M' 12 = N 12 := by
                  rw [U.2.1, s.e11, s.eh]
                  exact hh
                refine T_iload (q := 203) (by assumption) rfl rfl rfl ?_
                refine T_iconst (q := 204) (by assumption) rfl rfl ?_
                refine T_icmp_ge (q := 207) (tgt := 212) (by assumption) rfl rfl (by decide) (by omega) (by omega) (fun h204 => ?_) (fun h204 => ?_)
                · refine T_iconst (q := 213) (by assumption) rfl rfl ?_
                  refine T_icmp_ne (q := 216) (tgt := 243) (by assumption) rfl rfl (by decide) (by omega) (by omega) (fun h213 => ?_) (fun h213 => ?_)
                  · omega
                  · refine T_aload_n (q := 217) (i := 1) (by assumption) rfl rfl rfl rfl ?_
                    refine T_L1L (q := 220) (b2 := b) (C := C_L_print) (by assumption) rfl rfl rfl rfl rfl ⟨_, rfl, ⟨rfl, U.1⟩⟩ rfl rfl rfl (by assumption) (fun x M' hc => ?_)
                    replace hc := hc _ rfl
                    obtain ⟨e, sm⟩ := hc
                    rw [E] at e
                    subst e
                    have E2 : M' 12 = N 12 := sm.e12.trans E
                    refine T_lload (q := 222) (by assumption) rfl rfl rfl ?_
                    refine T_lcmpS (q := 223) (by assumption) rfl rfl ?_
                    refine T_if_ne (q := 226) (tgt := 243) (by assumption) rfl rfl (by decide) (by omega) (fun h223 => ?_) (fun h223 => ?_)
                    · omega
                    · refine T_aload_n (q := 227) (i := 1) (by assumption) rfl rfl rfl rfl ?_
                      refine T_iload (q := 229) (by assumption) rfl rfl rfl ?_
                      refine T_iload (q := 231) (by assumption) rfl rfl rfl ?_
                      refine T_L3I (q := 234) (b2 := b) (C := C_L_act) (by assumption) rfl rfl rfl rfl rfl ⟨_, _, _, rfl, ⟨rfl, sm.1, by rw [E2]; exact O, by rw [E2]; omega⟩⟩ rfl rfl rfl (by assumption) (fun x M' hc => ?_)
                      replace hc := hc _ _ _ rfl
                      obtain ⟨e, P2⟩ := hc
                      rw [E2] at e
                      have F := Pst_o (by rw [E2]; exact O) P2
                      have F6 := F.2.2
                      rw [E2] at F6
                      have s := Sme.rf F.1
                      refine T_iload (q := 236) (by assumption) rfl rfl rfl ?_
                      refine T_icmp_ne (q := 239) (tgt := 243) (by assumption) rfl rfl (by decide) P2.1 ir (fun h236 => ?_) (fun h236 => ?_)
                      · exact absurd (e.trans (ht (by omega)).symm) h236
                      · refine T_iconst (q := 240) (by assumption) rfl rfl ?_
                        refine T_goto (q := 243) (tgt := 244) (by assumption) rfl rfl (by decide) ?_
                        refine T_istore_n (q := 245) (i := 2) (by assumption) rfl rfl rfl rfl ?_
                        exact law_e L scr b hB k a c _ _ _ _ _ hk s.1 (by rw [s.e12]; exact F.2.1) (by rw [s.e12]; omega) (fun N' g' e' => K N' g' (by rw [e', s.e12]; exact F.2.1) (by rw [e', s.e12]; omega))
                · refine T_iload (q := 209) (by assumption) rfl rfl rfl ?_
                  refine T_goto (q := 212) (tgt := 213) (by assumption) rfl rfl (by decide) ?_
                  refine T_icmp_ne (q := 216) (tgt := 243) (by assumption) rfl rfl (by decide) (by omega) (by omega) (fun h213 => ?_) (fun h213 => ?_)
                  · omega
                  · refine T_aload_n (q := 217) (i := 1) (by assumption) rfl rfl rfl rfl ?_
                    refine T_L1L (q := 220) (b2 := b) (C := C_L_print) (by assumption) rfl rfl rfl rfl rfl ⟨_, rfl, ⟨rfl, U.1⟩⟩ rfl rfl rfl (by assumption) (fun x M' hc => ?_)
                    replace hc := hc _ rfl
                    obtain ⟨e, sm⟩ := hc
                    rw [E] at e
                    subst e
                    have E2 : M' 12 = N 12 := sm.e12.trans E
                    refine T_lload (q := 222) (by assumption) rfl rfl rfl ?_
                    refine T_lcmpS (q := 223) (by assumption) rfl rfl ?_
                    refine T_if_ne (q := 226) (tgt := 243) (by assumption) rfl rfl (by decide) (by omega) (fun h223 => ?_) (fun h223 => ?_)
                    · omega
                    · refine T_aload_n (q := 227) (i := 1) (by assumption) rfl rfl rfl rfl ?_
                      refine T_iload (q := 229) (by assumption) rfl rfl rfl ?_
                      refine T_iload (q := 231) (by assumption) rfl rfl rfl ?_
                      refine T_L3I (q := 234) (b2 := b) (C := C_L_act) (by assumption) rfl rfl rfl rfl rfl ⟨_, _, _, rfl, ⟨rfl, sm.1, by rw [E2]; exact O, by rw [E2]; omega⟩⟩ rfl rfl rfl (by assumption) (fun x M' hc => ?_)
                      replace hc := hc _ _ _ rfl
                      obtain ⟨e, P2⟩ := hc
                      rw [E2] at e
                      have F := Pst_o (by rw [E2]; exact O) P2
                      have F6 := F.2.2
                      rw [E2] at F6
                      have s := Sme.rf F.1
                      refine T_iload (q := 236) (by assumption) rfl rfl rfl ?_
                      refine T_icmp_ne (q := 239) (tgt := 243) (by assumption) rfl rfl (by decide) P2.1 ir (fun h236 => ?_) (fun h236 => ?_)
                      · exact absurd (e.trans (ht (by omega)).symm) h236
                      · refine T_iconst (q := 240) (by assumption) rfl rfl ?_
                        refine T_goto (q := 243) (tgt := 244) (by assumption) rfl rfl (by decide) ?_
                        refine T_istore_n (q := 245) (i := 2) (by assumption) rfl rfl rfl rfl ?_
                        exact law_e L scr b hB k a c _ _ _ _ _ hk s.1 (by rw [s.e12]; exact F.2.1) (by rw [s.e12]; omega) (fun N' g' e' => K N' g' (by rw [e', s.e12]; exact F.2.1) (by rw [e', s.e12]; omega))
      · refine T_iload (q := 162) (by assumption) rfl rfl rfl ?_
        refine T_iconst (q := 163) (by assumption) rfl rfl ?_
        refine T_iadd (q := 164) (by assumption) rfl rfl ?_
        refine T_goto (q := 167) (tgt := 168) (by assumption) rfl rfl (by decide) ?_
        refine T_icmp_ne (q := 171) (tgt := 175) (by assumption) rfl rfl (by decide) (by omega) (by omega) (fun h168 => ?_) (fun h168 => ?_)
        · omega
        · refine T_iconst (q := 172) (by assumption) rfl rfl ?_
          refine T_goto (q := 175) (tgt := 176) (by assumption) rfl rfl (by decide) ?_
          refine T_istore_n (q := 177) (i := 2) (by assumption) rfl rfl rfl rfl ?_
          refine T_iload_n (q := 178) (i := 2) (by assumption) rfl rfl rfl rfl ?_
          refine T_if_eq (q := 181) (tgt := 245) (by assumption) rfl rfl (by decide) (by omega) (fun h178 => ?_) (fun h178 => ?_)
          · omega
          · refine T_iload_n (q := 182) (i := 3) (by assumption) rfl rfl rfl rfl ?_
            refine T_iconst (q := 183) (by assumption) rfl rfl ?_
            refine T_icmp_le (q := 186) (tgt := 245) (by assumption) rfl rfl (by decide) (by omega) (by omega) (fun h183 => ?_) (fun h183 => ?_)
            · exact law_e L scr b hB k a c _ _ _ _ _ hk s.1 (by rw [s.e12]; exact F.2.1) (by rw [s.e12]; omega) (fun N' g' e' => K N' g' (by rw [e', s.e12]; exact F.2.1) (by rw [e', s.e12]; omega))
            · refine T_iload (q := 188) (by assumption) rfl rfl rfl ?_
              refine T_iconst (q := 189) (by assumption) rfl rfl ?_
              refine T_ishr (q := 190) (by assumption) rfl rfl ?_
              refine T_iconst (q := 191) (by assumption) rfl rfl ?_
              refine T_L2I (q := 194) (b2 := b) (C := C_L_low) (by assumption) rfl rfl rfl rfl rfl ⟨_, _, rfl, ⟨by omega, by omega⟩⟩ rfl rfl rfl (by assumption) (fun x M' hc => ?_)
              replace hc := hc _ _ rfl
              obtain ⟨rfl, rfl⟩ := hc
              refine T_if_ne (q := 197) (tgt := 245) (by assumption) rfl rfl (by decide) (by omega) (fun h194 => ?_) (fun h194 => ?_)
              · exact law_e L scr b hB k a c _ _ _ _ _ hk s.1 (by rw [s.e12]; exact F.2.1) (by rw [s.e12]; omega) (fun N' g' e' => K N' g' (by rw [e', s.e12]; exact F.2.1) (by rw [e', s.e12]; omega))
              · refine T_aload_n (q := 198) (i := 1) (by assumption) rfl rfl rfl rfl ?_
                refine T_C0 (q := 201) (C := D_undo) (by assumption) rfl rfl rfl rfl ⟨rfl, ⟨s.1, by rw [s.e11]; omega⟩⟩ rfl (fun x M' hc => ?_)
                replace hc := hc rfl
                obtain ⟨e, U⟩ := hc
                rw [s.e11] at e
                subst e
                have E : M' 12 = N 12 := by
                  rw [U.2.1, s.e11, s.eh]
                  exact hh
                refine T_iload (q := 203) (by assumption) rfl rfl rfl ?_
                refine T_iconst (q := 204) (by assumption) rfl rfl ?_
                refine T_icmp_ge (q := 207) (tgt := 212) (by assumption) rfl rfl (by decide) (by omega) (by omega) (fun h204 => ?_) (fun h204 => ?_)
                · refine T_iconst (q := 213) (by assumption) rfl rfl ?_
                  refine T_icmp_ne (q := 216) (tgt := 243) (by assumption) rfl rfl (by decide) (by omega) (by omega) (fun h213 => ?_) (fun h213 => ?_)
                  · omega
                  · refine T_aload_n (q := 217) (i := 1) (by assumption) rfl rfl rfl rfl ?_
                    refine T_L1L (q := 220) (b2 := b) (C := C_L_print) (by assumption) rfl rfl rfl rfl rfl ⟨_, rfl, ⟨rfl, U.1⟩⟩ rfl rfl rfl (by assumption) (fun x M' hc => ?_)
                    replace hc := hc _ rfl
                    obtain ⟨e, sm⟩ := hc
                    rw [E] at e
                    subst e
                    have E2 : M' 12 = N 12 := sm.e12.trans E
                    refine T_lload (q := 222) (by assumption) rfl rfl rfl ?_
                    refine T_lcmpS (q := 223) (by assumption) rfl rfl ?_
                    refine T_if_ne (q := 226) (tgt := 243) (by assumption) rfl rfl (by decide) (by omega) (fun h223 => ?_) (fun h223 => ?_)
                    · omega
                    · refine T_aload_n (q := 227) (i := 1) (by assumption) rfl rfl rfl rfl ?_
                      refine T_iload (q := 229) (by assumption) rfl rfl rfl ?_
                      refine T_iload (q := 231) (by assumption) rfl rfl rfl ?_
                      refine T_L3I (q := 234) (b2 := b) (C := C_L_act) (by assumption) rfl rfl rfl rfl rfl ⟨_, _, _, rfl, ⟨rfl, sm.1, by rw [E2]; exact O, by rw [E2]; omega⟩⟩ rfl rfl rfl (by assumption) (fun x M' hc => ?_)
                      replace hc := hc _ _ _ rfl
                      obtain ⟨e, P2⟩ := hc
                      rw [E2] at e
                      have F := Pst_o (by rw [E2]; exact O) P2
                      have F6 := F.2.2
                      rw [E2] at F6
                      have s := Sme.rf F.1
                      refine T_iload (q := 236) (by assumption) rfl rfl rfl ?_
                      refine T_icmp_ne (q := 239) (tgt := 243) (by assumption) rfl rfl (by decide) P2.1 ir (fun h236 => ?_) (fun h236 => ?_)
                      · exact absurd (e.trans (ht (by omega)).symm) h236
                      · refine T_iconst (q := 240) (by assumption) rfl rfl ?_
                        refine T_goto (q := 243) (tgt := 244) (by assumption) rfl rfl (by decide) ?_
                        refine T_istore_n (q := 245) (i := 2) (by assumption) rfl rfl rfl rfl ?_
                        exact law_e L scr b hB k a c _ _ _ _ _ hk s.1 (by rw [s.e12]; exact F.2.1) (by rw [s.e12]; omega) (fun N' g' e' => K N' g' (by rw [e', s.e12]; exact F.2.1) (by rw [e', s.e12]; omega))
                · refine T_iload (q := 209) (by assumption) rfl rfl rfl ?_
                  refine T_goto (q := 212) (tgt := 213) (by assumption) rfl rfl (by decide) ?_
                  refine T_icmp_ne (q := 216) (tgt := 243) (by assumption) rfl rfl (by decide) (by omega) (by omega) (fun h213 => ?_) (fun h213 => ?_)
                  · omega
                  · refine T_aload_n (q := 217) (i := 1) (by assumption) rfl rfl rfl rfl ?_
                    refine T_L1L (q := 220) (b2 := b) (C := C_L_print) (by assumption) rfl rfl rfl rfl rfl ⟨_, rfl, ⟨rfl, U.1⟩⟩ rfl rfl rfl (by assumption) (fun x M' hc => ?_)
                    replace hc := hc _ rfl
                    obtain ⟨e, sm⟩ := hc
                    rw [E] at e
                    subst e
                    have E2 : M' 12 = N 12 := sm.e12.trans E
                    refine T_lload (q := 222) (by assumption) rfl rfl rfl ?_
                    refine T_lcmpS (q := 223) (by assumption) rfl rfl ?_
                    refine T_if_ne (q := 226) (tgt := 243) (by assumption) rfl rfl (by decide) (by omega) (fun h223 => ?_) (fun h223 => ?_)
                    · omega
                    · refine T_aload_n (q := 227) (i := 1) (by assumption) rfl rfl rfl rfl ?_
                      refine T_iload (q := 229) (by assumption) rfl rfl rfl ?_
                      refine T_iload (q := 231) (by assumption) rfl rfl rfl ?_
                      refine T_L3I (q := 234) (b2 := b) (C := C_L_act) (by assumption) rfl rfl rfl rfl rfl ⟨_, _, _, rfl, ⟨rfl, sm.1, by rw [E2]; exact O, by rw [E2]; omega⟩⟩ rfl rfl rfl (by assumption) (fun x M' hc => ?_)
                      replace hc := hc _ _ _ rfl
                      obtain ⟨e, P2⟩ := hc
                      rw [E2] at e
                      have F := Pst_o (by rw [E2]; exact O) P2
                      have F6 := F.2.2
                      rw [E2] at F6
                      have s := Sme.rf F.1
                      refine T_iload (q := 236) (by assumption) rfl rfl rfl ?_
                      refine T_icmp_ne (q := 239) (tgt := 243) (by assumption) rfl rfl (by decide) P2.1 ir (fun h236 => ?_) (fun h236 => ?_)
                      · exact absurd (e.trans (ht (by omega)).symm) h236
                      · refine T_iconst (q := 240) (by assumption) rfl rfl ?_
                        refine T_goto (q := 243) (tgt := 244) (by assumption) rfl rfl (by decide) ?_
                        refine T_istore_n (q := 245) (i := 2) (by assumption) rfl rfl rfl rfl ?_
                        exact law_e L scr b hB k a c _ _ _ _ _ hk s.1 (by rw [s.e12]; exact F.2.1) (by rw [s.e12]; omega) (fun N' g' e' => K N' g' (by rw [e', s.e12]; exact F.2.1) (by rw [e', s.e12]; omega))
    · omega
set_option maxRecDepth 100000 in
set_option maxHeartbeats 4000000 in
theorem law_loop (L : Nat) (scr : Int → Int) : ∀ (n b : Nat) (k : Int) (l4 l5 l6 l7 l8 l9 : PV) (N : Mem), k + (n : Int) = 42 → 0 ≤ k → b + 3 * n ≤ 200 → GI N → Ok2 (N 12) → N 12 6 ≤ 30 * k → Run2 sx_L_law L (xcF scr) false 200 (fun x _ => x = 1) b 32 [wR 0, wR 3, wI 1, wI k, l4, l5, l6, l7, l8, l9] [] N := by
  intro n
  induction n with
  | zero =>
    intro b k l4 l5 l6 l7 l8 l9 N hkn hk hB g O h6
    have hb0 : Nat.ble b 200 = true := Nat.ble_eq_true_of_le (by omega)
    refine T_iload_n (q := 33) (i := 3) (by assumption) rfl rfl rfl rfl ?_
    refine T_bipush (q := 35) (by assumption) rfl rfl (by decide) ?_
    refine T_icmp_ge (q := 38) (tgt := 339) (by assumption) rfl rfl (by decide) (by omega) (by omega) (fun h35 => ?_) (fun h35 => ?_)
    · refine T_iload_n (q := 340) (i := 2) (by assumption) rfl rfl rfl rfl ?_
      refine T_ret (by assumption) rfl (Or.inr ⟨rfl, (by first | exact Or.inl rfl | exact Or.inr rfl | omega)⟩) ?_
      rfl
    · omega
  | succ n ih =>
    intro b k l4 l5 l6 l7 l8 l9 N hkn hk hB g O h6
    have hb0 : Nat.ble b 200 = true := Nat.ble_eq_true_of_le (by omega)
    have s := Sme.rf g
    have hs4 := g.2.2.1
    refine T_iload_n (q := 33) (i := 3) (by assumption) rfl rfl rfl rfl ?_
    refine T_bipush (q := 35) (by assumption) rfl rfl (by decide) ?_
    refine T_icmp_ge (q := 38) (tgt := 339) (by assumption) rfl rfl (by decide) (by omega) (by omega) (fun h35 => ?_) (fun h35 => ?_)
    · omega
    · refine T_iload_n (q := 39) (i := 2) (by assumption) rfl rfl rfl rfl ?_
      refine T_if_eq (q := 42) (tgt := 339) (by assumption) rfl rfl (by decide) (by omega) (fun h39 => ?_) (fun h39 => ?_)
      · omega
      · refine T_aload_n (q := 43) (i := 0) (by assumption) rfl rfl rfl rfl ?_
        refine T_iconst (q := 44) (by assumption) rfl rfl ?_
        refine T_iload_n (q := 45) (i := 3) (by assumption) rfl rfl rfl rfl ?_
        refine T_imul (q := 46) (by assumption) rfl rfl ?_
        refine T_L2I (q := 49) (b2 := b) (C := C_L_cell) (by assumption) rfl rfl rfl rfl rfl ⟨_, _, rfl, ⟨rfl, by omega, by omega⟩⟩ rfl rfl rfl (by assumption) (fun x M' hc => ?_)
        replace hc := hc _ _ rfl
        obtain rfl := hc
        revert x
        intro a
        refine T_istore (q := 51) (by assumption) rfl rfl rfl ?_
        refine T_aload_n (q := 52) (i := 0) (by assumption) rfl rfl rfl rfl ?_
        refine T_iconst (q := 53) (by assumption) rfl rfl ?_
        refine T_iload_n (q := 54) (i := 3) (by assumption) rfl rfl rfl rfl ?_
        refine T_imul (q := 55) (by assumption) rfl rfl ?_
        refine T_iconst (q := 56) (by assumption) rfl rfl ?_
        refine T_iadd (q := 57) (by assumption) rfl rfl ?_
        refine T_L2I (q := 60) (b2 := b) (C := C_L_cell) (by assumption) rfl rfl rfl rfl rfl ⟨_, _, rfl, ⟨rfl, by omega, by omega⟩⟩ rfl rfl rfl (by assumption) (fun x M' hc => ?_)
        replace hc := hc _ _ rfl
        obtain rfl := hc
        revert x
        intro c
        refine T_istore (q := 62) (by assumption) rfl rfl rfl ?_
        refine T_aload_n (q := 63) (i := 1) (by assumption) rfl rfl rfl rfl ?_
        refine T_bipush (q := 65) (by assumption) rfl rfl (by decide) ?_
        refine O_count (q := 68) s (by assumption) rfl rfl rfl (by decide) (cnV_18 _ _) rfl (fun M' s => ?_)
        refine T_istore (q := 70) (by assumption) rfl rfl rfl ?_
        refine T_aload_n (q := 71) (i := 1) (by assumption) rfl rfl rfl rfl ?_
        refine T_L1L (q := 74) (b2 := b) (C := C_L_print) (by assumption) rfl rfl rfl rfl rfl ⟨_, rfl, ⟨rfl, s.1⟩⟩ rfl rfl rfl (by assumption) (fun x M' hc => ?_)
        replace hc := hc _ rfl
        obtain ⟨e, sm⟩ := hc
        rw [s.e12] at e
        subst e
        replace s := s.tr sm
        have O' : Ok2 (M' 12) := by
          rw [s.e12]
          exact O
        refine T_lstore (q := 76) (by assumption) rfl rfl rfl rfl ?_
        refine T_iload_n (q := 77) (i := 3) (by assumption) rfl rfl rfl rfl ?_
        refine T_iconst (q := 78) (by assumption) rfl rfl ?_
        refine T_icmp_ge (q := 81) (tgt := 103) (by assumption) rfl rfl (by decide) (by omega) (by omega) (fun h78 => ?_) (fun h78 => ?_)
        · refine T_aload_n (q := 104) (i := 1) (by assumption) rfl rfl rfl rfl ?_
          refine T_iload (q := 106) (by assumption) rfl rfl rfl ?_
          refine T_iload (q := 108) (by assumption) rfl rfl rfl ?_
          refine T_L3I (q := 111) (b2 := b) (C := C_L_act) (by assumption) rfl rfl rfl rfl rfl ⟨_, _, _, rfl, ⟨rfl, s.1, O', by rw [s.e12]; omega⟩⟩ rfl rfl rfl (by assumption) (fun x M' hc => ?_)
          replace hc := hc _ _ _ rfl
          obtain ⟨e, P⟩ := hc
          rw [s.e12] at e
          replace P := Pst_tr s P
          have ht : 3 < k → x = actV a c (N 12) := fun z => e
          exact law_m L scr b (by omega) k a c _ _ N _ ⟨hk, by omega⟩ g O h6 ht P (fun N' g' O2 h2 => ih (b + 1 + 1 + 1) (k + 1) _ _ _ _ _ _ N' (by omega) (by omega) (by omega) g' O2 (by omega))
        · refine T_aload_n (q := 82) (i := 1) (by assumption) rfl rfl rfl rfl ?_
          refine T_iload (q := 84) (by assumption) rfl rfl rfl ?_
          refine T_iload (q := 86) (by assumption) rfl rfl rfl ?_
          refine T_L3I (q := 89) (b2 := b) (C := C_L_types) (by assumption) rfl rfl rfl rfl rfl ⟨_, _, _, rfl, ⟨rfl, s.1⟩⟩ rfl rfl rfl (by assumption) (fun x M' hc => ?_)
          replace hc := hc _ _ _ rfl
          obtain ⟨e, p, r⟩ := hc
          have tb := tyP_bd a c 3
          subst e
          refine T_if_ge (q := 92) (tgt := 96) (by assumption) rfl rfl (by decide) (by omega) (fun h89 => ?_) (fun h89 => ?_)
          · refine T_aload_n (q := 97) (i := 1) (by assumption) rfl rfl rfl rfl ?_
            refine T_C0 (q := 100) (C := D_read) (by assumption) rfl rfl rfl rfl ⟨rfl, p.1⟩ rfl (fun x M' hc => ?_)
            replace hc := hc rfl
            obtain ⟨e, h⟩ := hc
            have P := Pst_tr s (read_P O' p r e h).2
            have ht : 3 < k → x = actV a c (N 12) := fun z => by omega
            refine T_goto (q := 103) (tgt := 111) (by assumption) rfl rfl (by decide) ?_
            exact law_m L scr b (by omega) k a c _ _ N _ ⟨hk, by omega⟩ g O h6 ht P (fun N' g' O2 h2 => ih (b + 1 + 1 + 1) (k + 1) _ _ _ _ _ _ N' (by omega) (by omega) (by omega) g' O2 (by omega))
          · omega
set_option maxRecDepth 100000 in
set_option maxHeartbeats 4000000 in
theorem law_run (L : Nat) (scr : Int → Int) (M : Mem) (g : GI M) (O : Ok2 (M 12)) (h6 : M 12 6 = 0) : Run2 sx_L_law L (xcF scr) false 200 (fun x _ => x = 1) 0 8 [wR 0, wR 3, none, none, none, none, none, none, none, none] [] M := by
  refine T_aload_n (q := 9) (i := 1) rfl rfl rfl rfl rfl ?_
  refine T_L1I (q := 12) (b2 := 1) (C := C_L_trunks) rfl rfl rfl rfl rfl rfl ⟨_, rfl, ⟨rfl, g, O⟩⟩ rfl rfl rfl rfl (fun x M' hc => ?_)
  replace hc := hc _ rfl
  obtain ⟨rfl, sm⟩ := hc
  refine T_if_eq (q := 15) (tgt := 28) rfl rfl rfl (by decide) (by omega) (fun h12 => ?_) (fun h12 => ?_)
  · omega
  · refine T_aload_n (q := 16) (i := 1) rfl rfl rfl rfl rfl ?_
    refine T_iconst (q := 17) rfl rfl rfl ?_
    refine T_iconst (q := 18) rfl rfl rfl ?_
    refine T_L3I (q := 21) (b2 := 2) (C := C_L_turns) rfl rfl rfl rfl rfl rfl ⟨_, _, _, rfl, ⟨rfl, sm.1, by rw [sm.e12]; exact O, ⟨by omega, by omega⟩, ⟨by omega, by omega⟩, by rw [sm.e12]; omega⟩⟩ rfl rfl rfl rfl (fun x M' hc => ?_)
    replace hc := hc _ _ _ rfl
    obtain ⟨rfl, g2, e2⟩ := hc
    replace e2 := e2.trans sm.e12
    refine T_if_eq (q := 24) (tgt := 28) rfl rfl rfl (by decide) (by omega) (fun h21 => ?_) (fun h21 => ?_)
    · omega
    · refine T_iconst (q := 25) rfl rfl rfl ?_
      refine T_goto (q := 28) (tgt := 29) rfl rfl rfl (by decide) ?_
      refine T_istore_n (q := 30) (i := 2) rfl rfl rfl rfl rfl ?_
      refine T_iconst (q := 31) rfl rfl rfl ?_
      refine T_istore_n (q := 32) (i := 3) rfl rfl rfl rfl rfl ?_
      exact law_loop L scr 42 2 0 _ _ _ _ _ _ _ (by omega) (by omega) (by omega) g2 (by rw [e2]; exact O) (by rw [e2]; omega)
