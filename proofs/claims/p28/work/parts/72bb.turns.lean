set_option maxRecDepth 100000 in
set_option maxHeartbeats 4000000 in
theorem turns_T (L : Nat) (scr : Int → Int) (hL : L < 2147483648) (o : Nat) (n t : Int) (M : Mem) (hp : o = 3 ∧ GI M ∧ Ok2 (M 12) ∧ (1 ≤ n ∧ n ≤ 12) ∧ (0 ≤ t ∧ t < 14) ∧ M 12 6 + n ≤ 9999) (hT0 : hasT (M 12) t) : Run2 sx_L_turns L (xcF scr) false 1 (fun x M' => x = 1 ∧ GI M' ∧ M' 12 = M 12) 0 0 [wR o, wI n, wI t, none, none, none, none, none, none, none, none, none, none, none, none] [] M := by
  obtain ⟨rfl, g, O, hn, ht, h6⟩ := hp
  have OB := O.bd
  have hs4 := g.2.2.1
  obtain ⟨f, hf⟩ : ∃ f, M 12 = f := ⟨_, rfl⟩
  rw [hf] at O OB h6
  have hT := hT0
  rw [hf] at hT
  obtain ⟨G, hG⟩ : ∃ G, tnN n.toNat f = G := ⟨_, rfl⟩
  obtain ⟨OG, mono, -⟩ := tnN_Ok n.toNat f O
  obtain ⟨-, kG, k6⟩ := tnN_Inv n.toNat f O.1
  have g7 := kG 7 Kp7
  rw [hG] at OG mono k6 g7
  have OGB := OG.bd
  have hps : Hd (psn n.toNat f = G 8 + G 9 - (f 8 + f 9)) := by
    show psn n.toNat f = G 8 + G 9 - (f 8 + f 9)
    rw [← hG]
    rfl
  have i7 := O.1.i7
  have s := Sme.rf g
  have hT2 := hT
  unfold hasT at hT2
  have st := (OG.1.2.2.2.2.2.2.1 t ht.1 (by omega)).1
  have C := unt_C (t := t) ⟨ht.1, by omega⟩ O n.toNat (by omega)
  rw [hG] at C
  obtain ⟨U, hU⟩ : ∃ U, UT t f = U := ⟨_, rfl⟩
  obtain ⟨F, hF⟩ : ∃ F, FT t f = F := ⟨_, rfl⟩
  rw [hU, hF, show ((n.toNat : Nat) : Int) = n by omega] at C
  have C : (G (90 + 9 * t) ≠ 0 ∧ (0 ≤ U ∧ U ≤ n) ∧ F = G (90 + 9 * t)) ∨ (G (90 + 9 * t) = 0 ∧ U = -6) ∨ (G (90 + 9 * t) = 0 ∧ (n < U ∧ U < 201) ∧ Hd (unt t 201 0 G = U - n) ∧ Hd (ftV t G = F)) := C.imp id (fun z => z.imp id (fun z => ⟨z.1, z.2.1, (UT_def t G).symm.trans z.2.2.1, (FT_def t G).symm.trans z.2.2.2⟩))
  refine T_aload_n (q := 1) (i := 0) rfl rfl rfl rfl rfl ?_
  refine T_iload_n (q := 2) (i := 1) rfl rfl rfl rfl rfl ?_
  refine T_iconst (q := 3) rfl rfl rfl ?_
  refine O_ifTurned (q := 6) s rfl rfl rfl rfl (by unfold itOK; omega) (by rewrite [hf]; exact hps) rfl (fun M' s => ?_)
  refine T_istore_n (q := 7) (i := 3) rfl rfl rfl rfl rfl ?_
  refine T_aload_n (q := 8) (i := 0) rfl rfl rfl rfl rfl ?_
  refine T_iload_n (q := 9) (i := 1) rfl rfl rfl rfl rfl ?_
  refine T_iconst (q := 10) rfl rfl rfl ?_
  refine O_ifTurned (q := 13) s rfl rfl rfl rfl (by unfold itOK; omega) (by rewrite [hf, itV_1, hG]; rfl) rfl (fun M' s => ?_)
  refine T_istore (q := 15) rfl rfl rfl rfl ?_
  refine T_aload_n (q := 16) (i := 0) rfl rfl rfl rfl rfl ?_
  refine T_iload_n (q := 17) (i := 1) rfl rfl rfl rfl rfl ?_
  refine T_iconst (q := 18) rfl rfl rfl ?_
  refine O_ifTurned (q := 21) s rfl rfl rfl rfl (by unfold itOK; omega) (by rewrite [hf, itV_2, hG]; rfl) rfl (fun M' s => ?_)
  refine T_istore (q := 23) rfl rfl rfl rfl ?_
  refine T_aload_n (q := 24) (i := 0) rfl rfl rfl rfl rfl ?_
  refine T_iload_n (q := 25) (i := 2) rfl rfl rfl rfl rfl ?_
  refine O_untilGone (q := 28) s rfl rfl rfl rfl ⟨by rw [hf]; exact hT, by omega⟩ (by rewrite [hf]; exact (UT_def t f).symm.trans hU) rfl (fun M' s => ?_)
  refine T_istore (q := 30) rfl rfl rfl rfl ?_
  refine T_aload_n (q := 31) (i := 0) rfl rfl rfl rfl rfl ?_
  refine T_iload_n (q := 32) (i := 2) rfl rfl rfl rfl rfl ?_
  refine O_fate (q := 35) s rfl rfl rfl rfl ⟨by rw [hf]; exact hT, by omega⟩ (by rewrite [hf]; exact (FT_def t f).symm.trans hF) rfl (fun M' s => ?_)
  refine T_istore (q := 37) rfl rfl rfl rfl ?_
  refine T_aload_n (q := 38) (i := 0) rfl rfl rfl rfl rfl ?_
  refine T_bipush (q := 40) rfl rfl rfl (by decide) ?_
  refine O_count (q := 43) s rfl rfl rfl rfl (by decide) (by rewrite [hf]; exact cnV_10 _ _) rfl (fun M' s => ?_)
  refine T_istore (q := 45) rfl rfl rfl rfl ?_
  refine T_aload_n (q := 46) (i := 0) rfl rfl rfl rfl rfl ?_
  refine T_bipush (q := 48) rfl rfl rfl (by decide) ?_
  refine O_count (q := 51) s rfl rfl rfl rfl (by decide) (by rewrite [hf]; exact cnV_9 _ _) rfl (fun M' s => ?_)
  refine T_istore (q := 53) rfl rfl rfl rfl ?_
  refine T_aload_n (q := 54) (i := 0) rfl rfl rfl rfl rfl ?_
  refine T_bipush (q := 56) rfl rfl rfl (by decide) ?_
  refine O_count (q := 59) s rfl rfl rfl rfl (by decide) (by rewrite [hf]; exact cnV_15 _ _) rfl (fun M' s => ?_)
  refine T_istore (q := 61) rfl rfl rfl rfl ?_
  refine T_aload_n (q := 62) (i := 0) rfl rfl rfl rfl rfl ?_
  refine T_L1L (q := 65) (b2 := 0) (C := C_L_print) rfl rfl rfl rfl rfl rfl ⟨_, rfl, ⟨rfl, s.1⟩⟩ rfl rfl rfl rfl (fun x M' hc => ?_)
  replace hc := hc _ rfl
  obtain ⟨e, sm⟩ := hc
  rw [s.e12, hf] at e
  subst e
  replace s := s.tr sm
  refine T_lstore (q := 67) rfl rfl rfl rfl rfl ?_
  refine T_aload_n (q := 68) (i := 0) rfl rfl rfl rfl rfl ?_
  refine T_iload_n (q := 69) (i := 1) rfl rfl rfl rfl rfl ?_
  refine T_C1 (q := 72) (C := D_turn) rfl rfl rfl rfl rfl ⟨_, rfl, ⟨s.1, by omega, by rw [s.e12, hf]; omega⟩⟩ rfl (fun x M' hc => ?_)
  replace hc := hc _ rfl
  obtain ⟨e, cd⟩ := hc
  rw [s.e12, hf] at e
  rw [s.e12, hf, hG] at cd
  rw [show psn n.toNat f = _ from hps] at e
  subst e
  have hl := cd.hl (by rw [s.e11]; omega)
  have hs5 := cd.1.2.2.1
  rw [s.e12, hf] at hl
  have hf2 := cd.e12
  replace s := Sme.rf cd.1
  refine T_iload_n (q := 73) (i := 3) rfl rfl rfl rfl rfl ?_
  refine T_neS (q := 76) (tgt := 131) rfl rfl rfl (by decide) ?_
  refine T_aload_n (q := 77) (i := 0) rfl rfl rfl rfl rfl ?_
  refine T_bipush (q := 79) rfl rfl rfl (by decide) ?_
  refine O_count (q := 82) s rfl rfl rfl rfl (by decide) (by rewrite [hf2]; exact cnV_10 _ _) rfl (fun M' s => ?_)
  refine T_iload (q := 84) rfl rfl rfl rfl ?_
  refine T_iload (q := 86) rfl rfl rfl rfl ?_
  refine T_iadd (q := 87) rfl rfl rfl ?_
  refine T_icmp_ne (q := 90) (tgt := 131) rfl rfl rfl (by decide) (by omega) (by omega) (fun h87 => ?_) (fun h87 => ?_)
  · exfalso; omega
  · refine T_aload_n (q := 91) (i := 0) rfl rfl rfl rfl rfl ?_
    refine T_bipush (q := 93) rfl rfl rfl (by decide) ?_
    refine O_count (q := 96) s rfl rfl rfl rfl (by decide) (by rewrite [hf2]; exact cnV_9 _ _) rfl (fun M' s => ?_)
    refine T_iload (q := 98) rfl rfl rfl rfl ?_
    refine T_iload_n (q := 99) (i := 3) rfl rfl rfl rfl rfl ?_
    refine T_iadd (q := 100) rfl rfl rfl ?_
    refine T_iload (q := 102) rfl rfl rfl rfl ?_
    refine T_isub (q := 103) rfl rfl rfl ?_
    refine T_icmp_ne (q := 106) (tgt := 131) rfl rfl rfl (by decide) (by omega) (by omega) (fun h103 => ?_) (fun h103 => ?_)
    · exfalso; omega
    · refine T_aload_n (q := 107) (i := 0) rfl rfl rfl rfl rfl ?_
      refine T_bipush (q := 109) rfl rfl rfl (by decide) ?_
      refine O_count (q := 112) s rfl rfl rfl rfl (by decide) (by rewrite [hf2]; exact cnV_15 _ _) rfl (fun M' s => ?_)
      refine T_iload (q := 114) rfl rfl rfl rfl ?_
      refine T_iload (q := 116) rfl rfl rfl rfl ?_
      refine T_iadd (q := 117) rfl rfl rfl ?_
      refine T_icmp_ne (q := 120) (tgt := 131) rfl rfl rfl (by decide) (by omega) (by omega) (fun h117 => ?_) (fun h117 => ?_)
      · exfalso; omega
      · refine T_aload_n (q := 121) (i := 0) rfl rfl rfl rfl rfl ?_
        refine T_L1I (q := 124) (b2 := 1) (C := C_L_trunks) rfl rfl rfl rfl rfl rfl ⟨_, rfl, ⟨rfl, s.1, by rw [s.e12, hf2]; exact OG⟩⟩ rfl rfl rfl rfl (fun x M' hc => ?_)
        replace hc := hc _ rfl
        obtain ⟨rfl, sm⟩ := hc
        replace s := s.tr sm
        refine T_if_eq (q := 127) (tgt := 131) rfl rfl rfl (by decide) (by omega) (fun h124 => ?_) (fun h124 => ?_)
        · omega
        · refine T_iconst (q := 128) rfl rfl rfl ?_
          refine T_goto (q := 131) (tgt := 132) rfl rfl rfl (by decide) ?_
          refine T_istore (q := 134) rfl rfl rfl rfl ?_
          refine Run2.mono (fun x M' h => ⟨h.1, h.2.1, h.2.2.trans hf.symm⟩) (turns_b L scr n t U F _ _ _ _ _ _ _ f G _ s.1 (by rw [s.e12, hf2]) (by rw [s.e11, s.eh]; exact hl) hn (by omega) (by omega) st ?_)
          exact C
set_option maxRecDepth 100000 in
set_option maxHeartbeats 2000000 in
theorem ok_L_turns (L : Nat) (scr : Int → Int) (hL : L < 2147483648) (o : Nat) (n : Int) (t : Int) (M : Mem) (hp : o = 3 ∧ GI M ∧ Ok2 (M 12) ∧ (1 ≤ n ∧ n ≤ 12) ∧ (0 ≤ t ∧ t < 14) ∧ M 12 6 + n ≤ 9999) : Run2 sx_L_turns L (xcF scr) false 1 (fun x M' => x = 1 ∧ GI M' ∧ M' 12 = M 12) 0 0 [wR o, wI n, wI t, none, none, none, none, none, none, none, none, none, none, none, none] [] M := by
  by_cases hT : hasT (M 12) t
  · exact turns_T L scr hL o n t M hp hT
  · exact turns_N L scr hL o n t M hp hT
