/-! THE LAW'S turns -/
/-- kept out of omega's sight -/
def Hd (p : Prop) : Prop := p
/-- untilGone and fate, kept shut -/
theorem UT_ex : ∃ u : Int → (Int → Int) → Int, ∀ t f, u t f = unt t 201 0 f := ⟨fun t f => unt t 201 0 f, fun _ _ => rfl⟩
noncomputable def UT : Int → (Int → Int) → Int := Classical.choose UT_ex
theorem UT_def (t : Int) (f : Int → Int) : UT t f = unt t 201 0 f := Classical.choose_spec UT_ex t f
theorem FT_ex : ∃ u : Int → (Int → Int) → Int, ∀ t f, u t f = ftV t f := ⟨fun t f => ftV t f, fun _ _ => rfl⟩
noncomputable def FT : Int → (Int → Int) → Int := Classical.choose FT_ex
theorem FT_def (t : Int) (f : Int → Int) : FT t f = ftV t f := Classical.choose_spec FT_ex t f
theorem unt_C {t : Int} (ht : 0 ≤ t ∧ t < 64) {f : Int → Int} (h : Ok2 f) (n : Nat) (hn : n < 200) : (tnN n f (90 + 9 * t) ≠ 0 ∧ (0 ≤ UT t f ∧ UT t f ≤ n) ∧ FT t f = tnN n f (90 + 9 * t)) ∨ (tnN n f (90 + 9 * t) = 0 ∧ UT t f = -6) ∨ (tnN n f (90 + 9 * t) = 0 ∧ ((n : Int) < UT t f ∧ UT t f < 201) ∧ UT t (tnN n f) = UT t f - n ∧ FT t (tnN n f) = FT t f) := by
  obtain ⟨A1, A2, A3⟩ := unt_n ht h n hn
  have ub := unt_bd (t := t) 201 0 f
  simp only [← UT_def, ← FT_def] at A1 A2 A3 ub
  by_cases z : tnN n f (90 + 9 * t) = 0
  · have z2 : ¬ (0 ≤ UT t f ∧ UT t f ≤ n) := fun y => (A1.mpr y) z
    by_cases z3 : UT t f = -6
    · exact Or.inr (Or.inl ⟨z, z3⟩)
    · have z4 : (n : Int) < UT t f ∧ UT t f < 201 := by
        clear A1 A2 A3
        omega
      exact Or.inr (Or.inr ⟨z, z4, A3 z4.1⟩)
  · exact Or.inl ⟨z, A1.mp z, (A2 z).symm⟩
theorem itV_0 (n : Int) (f : Int → Int) : itV n 0 f = psn n.toNat f := rfl
theorem itV_1 (n : Int) (f : Int → Int) : itV n 1 f = tnN n.toNat f 9 - f 9 := rfl
theorem itV_2 (n : Int) (f : Int → Int) : itV n 2 f = (tnN n.toNat f 11 + tnN n.toNat f 12 + tnN n.toNat f 13) - (f 11 + f 12 + f 13) := rfl
theorem Ok2.bd {f : Int → Int} (O : Ok2 f) : (0 ≤ f 8 ∧ f 8 ≤ 64) ∧ (0 ≤ f 9 ∧ f 9 ≤ 64) ∧ 0 ≤ f 6 ∧ (0 ≤ f 11 ∧ f 11 ≤ 3200) ∧ (0 ≤ f 12 ∧ f 12 ≤ 34560) ∧ (0 ≤ f 13 ∧ f 13 ≤ 320 * f 6) := by
  obtain ⟨I, V, b, -⟩ := O
  have g := gone_bd I
  have d := V.2.2.2.1
  have i6 := I.2.1.1
  omega
theorem Und.e12 {N N' P : Mem} {f : Int → Int} (h : Und N' P) (s : Sme N N') (hh : hs N (N 11 1) = f) : P 12 = f := by
  rw [h.2.1, s.e11, s.eh, hh]
abbrev C_L_turns : Ct2 := (3, false, 1, fun as M => ∃ (o : Nat) (n : Int) (t : Int), as = [wR o, wI n, wI t] ∧ (o = 3 ∧ GI M ∧ Ok2 (M 12) ∧ (1 ≤ n ∧ n ≤ 12) ∧ (0 ≤ t ∧ t < 14) ∧ M 12 6 + n ≤ 9999), fun as M x M' => ∀ (o : Nat) (n : Int) (t : Int), as = [wR o, wI n, wI t] → (x = 1 ∧ GI M' ∧ M' 12 = M 12))
def sx_L_turns : Sx2 := (tb_L_turns, kLL, kIL, [(85, D_ifTurned), (88, D_untilGone), (91, D_fate), (62, D_count), (59, D_turn), (65, D_trunk), (102, D_undo)], [(94, C_L_print), (98, C_L_trunks)], 2)
set_option maxRecDepth 100000 in
set_option maxHeartbeats 4000000 in
theorem turns_N (L : Nat) (scr : Int → Int) (hL : L < 2147483648) (o : Nat) (n t : Int) (M : Mem) (hp : o = 3 ∧ GI M ∧ Ok2 (M 12) ∧ (1 ≤ n ∧ n ≤ 12) ∧ (0 ≤ t ∧ t < 14) ∧ M 12 6 + n ≤ 9999) (hT0 : ¬ hasT (M 12) t) : Run2 sx_L_turns L (xcF scr) false 1 (fun x M' => x = 1 ∧ GI M' ∧ M' 12 = M 12) 0 0 [wR o, wI n, wI t, none, none, none, none, none, none, none, none, none, none, none, none] [] M := by
  obtain ⟨rfl, g, O, hn, ht, h6⟩ := hp
  have OB := O.bd
  have hs4 := g.2.2.1
  obtain ⟨f, hf⟩ : ∃ f, M 12 = f := ⟨_, rfl⟩
  rw [hf] at O OB h6
  have hT := hT0
  rw [hf] at hT
  obtain ⟨G, hG⟩ : ∃ G, tnN n.toNat f = G := ⟨_, rfl⟩
  obtain ⟨OG, mono, -⟩ := tnN_Ok n.toNat f O
  obtain ⟨-, kG, k6⟩ := tnN_Inv n.toNat f O.1
  have g7 := kG 7 Kp7
  rw [hG] at OG mono k6 g7
  have OGB := OG.bd
  have hps : Hd (psn n.toNat f = G 8 + G 9 - (f 8 + f 9)) := by
    show psn n.toNat f = G 8 + G 9 - (f 8 + f 9)
    rw [← hG]
    rfl
  have i7 := O.1.i7
  have s := Sme.rf g
  have hT2 := hT
  unfold hasT at hT2
  refine T_aload_n (q := 1) (i := 0) rfl rfl rfl rfl rfl ?_
  refine T_iload_n (q := 2) (i := 1) rfl rfl rfl rfl rfl ?_
  refine T_iconst (q := 3) rfl rfl rfl ?_
  refine O_ifTurned (q := 6) s rfl rfl rfl rfl (by unfold itOK; omega) (by rewrite [hf]; exact hps) rfl (fun M' s => ?_)
  refine T_istore_n (q := 7) (i := 3) rfl rfl rfl rfl rfl ?_
  refine T_aload_n (q := 8) (i := 0) rfl rfl rfl rfl rfl ?_
  refine T_iload_n (q := 9) (i := 1) rfl rfl rfl rfl rfl ?_
  refine T_iconst (q := 10) rfl rfl rfl ?_
  refine O_ifTurned (q := 13) s rfl rfl rfl rfl (by unfold itOK; omega) (by rewrite [hf, itV_1, hG]; rfl) rfl (fun M' s => ?_)
  refine T_istore (q := 15) rfl rfl rfl rfl ?_
  refine T_aload_n (q := 16) (i := 0) rfl rfl rfl rfl rfl ?_
  refine T_iload_n (q := 17) (i := 1) rfl rfl rfl rfl rfl ?_
  refine T_iconst (q := 18) rfl rfl rfl ?_
  refine O_ifTurned (q := 21) s rfl rfl rfl rfl (by unfold itOK; omega) (by rewrite [hf, itV_2, hG]; rfl) rfl (fun M' s => ?_)
  refine T_istore (q := 23) rfl rfl rfl rfl ?_
  refine T_aload_n (q := 24) (i := 0) rfl rfl rfl rfl rfl ?_
  refine T_iload_n (q := 25) (i := 2) rfl rfl rfl rfl rfl ?_
  refine O_untilGoneN (q := 28) s rfl rfl rfl rfl ⟨by rw [hf]; exact hT, by omega⟩ rfl rfl (fun M' s => ?_)
  refine T_istore (q := 30) rfl rfl rfl rfl ?_
  refine T_aload_n (q := 31) (i := 0) rfl rfl rfl rfl rfl ?_
  refine T_iload_n (q := 32) (i := 2) rfl rfl rfl rfl rfl ?_
  refine O_fateN (q := 35) s rfl rfl rfl rfl ⟨by rw [hf]; exact hT, by omega⟩ rfl rfl (fun M' s => ?_)
  refine T_istore (q := 37) rfl rfl rfl rfl ?_
  refine T_aload_n (q := 38) (i := 0) rfl rfl rfl rfl rfl ?_
  refine T_bipush (q := 40) rfl rfl rfl (by decide) ?_
  refine O_count (q := 43) s rfl rfl rfl rfl (by decide) (by rewrite [hf]; exact cnV_10 _ _) rfl (fun M' s => ?_)
  refine T_istore (q := 45) rfl rfl rfl rfl ?_
  refine T_aload_n (q := 46) (i := 0) rfl rfl rfl rfl rfl ?_
  refine T_bipush (q := 48) rfl rfl rfl (by decide) ?_
  refine O_count (q := 51) s rfl rfl rfl rfl (by decide) (by rewrite [hf]; exact cnV_9 _ _) rfl (fun M' s => ?_)
  refine T_istore (q := 53) rfl rfl rfl rfl ?_
  refine T_aload_n (q := 54) (i := 0) rfl rfl rfl rfl rfl ?_
  refine T_bipush (q := 56) rfl rfl rfl (by decide) ?_
  refine O_count (q := 59) s rfl rfl rfl rfl (by decide) (by rewrite [hf]; exact cnV_15 _ _) rfl (fun M' s => ?_)
  refine T_istore (q := 61) rfl rfl rfl rfl ?_
  refine T_aload_n (q := 62) (i := 0) rfl rfl rfl rfl rfl ?_
  refine T_L1L (q := 65) (b2 := 0) (C := C_L_print) rfl rfl rfl rfl rfl rfl ⟨_, rfl, ⟨rfl, s.1⟩⟩ rfl rfl rfl rfl (fun x M' hc => ?_)
  replace hc := hc _ rfl
  obtain ⟨e, sm⟩ := hc
  rw [s.e12, hf] at e
  subst e
  replace s := s.tr sm
  refine T_lstore (q := 67) rfl rfl rfl rfl rfl ?_
  refine T_aload_n (q := 68) (i := 0) rfl rfl rfl rfl rfl ?_
  refine T_iload_n (q := 69) (i := 1) rfl rfl rfl rfl rfl ?_
  refine T_C1 (q := 72) (C := D_turn) rfl rfl rfl rfl rfl ⟨_, rfl, ⟨s.1, by omega, by rw [s.e12, hf]; omega⟩⟩ rfl (fun x M' hc => ?_)
  replace hc := hc _ rfl
  obtain ⟨e, cd⟩ := hc
  rw [s.e12, hf] at e
  rw [s.e12, hf, hG] at cd
  rw [show psn n.toNat f = _ from hps] at e
  subst e
  have hl := cd.hl (by rw [s.e11]; omega)
  have hs5 := cd.1.2.2.1
  rw [s.e12, hf] at hl
  have hf2 := cd.e12
  replace s := Sme.rf cd.1
  refine T_iload_n (q := 73) (i := 3) rfl rfl rfl rfl rfl ?_
  refine T_neS (q := 76) (tgt := 131) rfl rfl rfl (by decide) ?_
  refine T_aload_n (q := 77) (i := 0) rfl rfl rfl rfl rfl ?_
  refine T_bipush (q := 79) rfl rfl rfl (by decide) ?_
  refine O_count (q := 82) s rfl rfl rfl rfl (by decide) (by rewrite [hf2]; exact cnV_10 _ _) rfl (fun M' s => ?_)
  refine T_iload (q := 84) rfl rfl rfl rfl ?_
  refine T_iload (q := 86) rfl rfl rfl rfl ?_
  refine T_iadd (q := 87) rfl rfl rfl ?_
  refine T_icmp_ne (q := 90) (tgt := 131) rfl rfl rfl (by decide) (by omega) (by omega) (fun h87 => ?_) (fun h87 => ?_)
  · exfalso; omega
  · refine T_aload_n (q := 91) (i := 0) rfl rfl rfl rfl rfl ?_
    refine T_bipush (q := 93) rfl rfl rfl (by decide) ?_
    refine O_count (q := 96) s rfl rfl rfl rfl (by decide) (by rewrite [hf2]; exact cnV_9 _ _) rfl (fun M' s => ?_)
    refine T_iload (q := 98) rfl rfl rfl rfl ?_
    refine T_iload_n (q := 99) (i := 3) rfl rfl rfl rfl rfl ?_
    refine T_iadd (q := 100) rfl rfl rfl ?_
    refine T_iload (q := 102) rfl rfl rfl rfl ?_
    refine T_isub (q := 103) rfl rfl rfl ?_
    refine T_icmp_ne (q := 106) (tgt := 131) rfl rfl rfl (by decide) (by omega) (by omega) (fun h103 => ?_) (fun h103 => ?_)
    · exfalso; omega
    · refine T_aload_n (q := 107) (i := 0) rfl rfl rfl rfl rfl ?_
      refine T_bipush (q := 109) rfl rfl rfl (by decide) ?_
      refine O_count (q := 112) s rfl rfl rfl rfl (by decide) (by rewrite [hf2]; exact cnV_15 _ _) rfl (fun M' s => ?_)
      refine T_iload (q := 114) rfl rfl rfl rfl ?_
      refine T_iload (q := 116) rfl rfl rfl rfl ?_
      refine T_iadd (q := 117) rfl rfl rfl ?_
      refine T_icmp_ne (q := 120) (tgt := 131) rfl rfl rfl (by decide) (by omega) (by omega) (fun h117 => ?_) (fun h117 => ?_)
      · exfalso; omega
      · refine T_aload_n (q := 121) (i := 0) rfl rfl rfl rfl rfl ?_
        refine T_L1I (q := 124) (b2 := 1) (C := C_L_trunks) rfl rfl rfl rfl rfl rfl ⟨_, rfl, ⟨rfl, s.1, by rw [s.e12, hf2]; exact OG⟩⟩ rfl rfl rfl rfl (fun x M' hc => ?_)
        replace hc := hc _ rfl
        obtain ⟨rfl, sm⟩ := hc
        replace s := s.tr sm
        refine T_if_eq (q := 127) (tgt := 131) rfl rfl rfl (by decide) (by omega) (fun h124 => ?_) (fun h124 => ?_)
        · omega
        · refine T_iconst (q := 128) rfl rfl rfl ?_
          refine T_goto (q := 131) (tgt := 132) rfl rfl rfl (by decide) ?_
          refine T_istore (q := 134) rfl rfl rfl rfl ?_
          refine T_iload_n (q := 135) (i := 2) rfl rfl rfl rfl rfl ?_
          refine T_aload_n (q := 136) (i := 0) rfl rfl rfl rfl rfl ?_
          refine T_bipush (q := 138) rfl rfl rfl (by decide) ?_
          refine O_count (q := 141) s rfl rfl rfl rfl (by decide) (by rewrite [hf2]; exact cnV_7 _ _) rfl (fun M' s => ?_)
          refine T_icmp_ge (q := 144) (tgt := 242) rfl rfl rfl (by decide) (by omega) (by omega) (fun h141 => ?_) (fun h141 => ?_)
          · refine T_iload (q := 244) rfl rfl rfl rfl ?_
            refine T_if_eq (q := 247) (tgt := 264) rfl rfl rfl (by decide) (by omega) (fun h244 => ?_) (fun h244 => ?_)
            · omega
            · refine T_iload (q := 249) rfl rfl rfl rfl ?_
              refine T_iconst (q := 250) rfl rfl rfl ?_
              refine T_icmp_ne (q := 253) (tgt := 264) rfl rfl rfl (by decide) (by omega) (by omega) (fun h250 => ?_) (fun h250 => ?_)
              · omega
              · refine T_iload (q := 255) rfl rfl rfl rfl ?_
                refine T_iload (q := 257) rfl rfl rfl rfl ?_
                refine T_icmp_ne (q := 260) (tgt := 264) rfl rfl rfl (by decide) (by omega) (by omega) (fun h257 => ?_) (fun h257 => ?_)
                · omega
                · refine T_iconst (q := 261) rfl rfl rfl ?_
                  refine T_goto (q := 264) (tgt := 265) rfl rfl rfl (by decide) ?_
                  refine T_istore (q := 267) rfl rfl rfl rfl ?_
                  refine T_iload (q := 269) rfl rfl rfl rfl ?_
                  refine T_if_eq (q := 272) (tgt := 293) rfl rfl rfl (by decide) (by omega) (fun h269 => ?_) (fun h269 => ?_)
                  · omega
                  · refine T_aload_n (q := 273) (i := 0) rfl rfl rfl rfl rfl ?_
                    refine T_C0 (q := 276) (C := D_undo) rfl rfl rfl rfl rfl ⟨rfl, ⟨s.1, by rw [s.e11]; omega⟩⟩ rfl (fun x M' hc => ?_)
                    replace hc := hc rfl
                    obtain ⟨e, un⟩ := hc
                    rw [s.e11] at e
                    have hP := un.e12 s hl.2
                    replace s := Sme.rf un.1
                    refine T_if_lt (q := 279) (tgt := 293) rfl rfl rfl (by decide) (by omega) (fun h276 => ?_) (fun h276 => ?_)
                    · omega
                    · refine T_aload_n (q := 280) (i := 0) rfl rfl rfl rfl rfl ?_
                      refine T_L1L (q := 283) (b2 := 1) (C := C_L_print) rfl rfl rfl rfl rfl rfl ⟨_, rfl, ⟨rfl, s.1⟩⟩ rfl rfl rfl rfl (fun x M' hc => ?_)
                      replace hc := hc _ rfl
                      obtain ⟨e2, sm⟩ := hc
                      rw [s.e12, hP] at e2
                      subst e2
                      replace s := s.tr sm
                      refine T_lload (q := 285) rfl rfl rfl rfl ?_
                      refine T_lcmpS (q := 286) rfl rfl rfl ?_
                      refine T_if_ne (q := 289) (tgt := 293) rfl rfl rfl (by decide) (by omega) (fun h286 => ?_) (fun h286 => ?_)
                      · omega
                      · refine T_iconst (q := 290) rfl rfl rfl ?_
                        refine T_goto (q := 293) (tgt := 294) rfl rfl rfl (by decide) ?_
                        refine T_ret rfl rfl (Or.inr ⟨rfl, (by first | exact Or.inl rfl | exact Or.inr rfl | omega)⟩) ?_
                        exact ⟨rfl, s.1, by rw [s.e12, hP, hf]⟩
          · omega
