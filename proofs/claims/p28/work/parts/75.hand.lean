/-! THE LAW'S hand -/
abbrev C_L_hand : Ct2 := (1, false, 0, fun as M => ∃ (o : Nat), as = [wR o] ∧ (o = 3 ∧ GI M ∧ Ok2 (M 12)), fun as M x M' => ∀ (o : Nat), as = [wR o] → (x = 1 ∧ GI M' ∧ M' 12 = M 12))
def sx_L_hand : Sx2 := (tb_L_hand, kLL, kIL, [(108, D_bestHand), (85, D_ifTurned), (78, D_desk), (48, D_hands), (102, D_undo)], [(94, C_L_print)], 2)
set_option maxRecDepth 100000 in
set_option maxHeartbeats 2000000 in
theorem ok_L_hand (L : Nat) (scr : Int → Int) (hL : L < 2147483648) (o : Nat) (M : Mem) (hp : o = 3 ∧ GI M ∧ Ok2 (M 12)) : Run2 sx_L_hand L (xcF scr) false 0 (fun x M' => x = 1 ∧ GI M' ∧ M' 12 = M 12) 0 0 [wR o, none, none, none, none, none, none, none, none, none, none] [] M := by
  obtain ⟨rfl, g, O⟩ := hp
  obtain ⟨f, hf⟩ : ∃ f, M 12 = f := ⟨_, rfl⟩
  rw [hf] at O
  have I := O.1
  obtain ⟨B, hB⟩ : ∃ B : Nat → Int × Int, Hd (∀ n, bhP f n = B n) := ⟨bhP f, fun _ => rfl⟩
  obtain ⟨p, hpv⟩ : ∃ p : Nat → Int, Hd (∀ n : Nat, psn 5 (bhU f (n : Int)) = p n) := ⟨fun n => psn 5 (bhU f (n : Int)), fun _ => rfl⟩
  have hB' : ∀ n, bhP f n = B n := hB
  have hpv' : ∀ n : Nat, psn 5 (bhU f (n : Int)) = p n := hpv
  have Bb : ∀ n, n ≤ 3 → (-200 ≤ (B n).2 ∧ (B n).2 ≤ 200) ∧ (-6 ≤ (B n).1 ∧ (B n).1 ≤ 3) := fun n hn => by
    rw [← hB']
    refine ⟨bhP_bd I n hn, ?_⟩
    have : ∀ n : Nat, n ≤ 3 → -6 ≤ (bhP f n).1 ∧ (bhP f n).1 ≤ 3 := fun n => by
      induction n with
      | zero => intro _; show -6 ≤ (-6 : Int) ∧ (-6 : Int) ≤ 3; omega
      | succ n ih =>
        intro h
        unfold bhP
        split
        · show -6 ≤ (n : Int) ∧ (n : Int) ≤ 3
          omega
        · exact ih (by omega)
    exact this n hn
  have B0 : B 0 = (-6, psn 5 f) := by rw [← hB']; rfl
  have Bs : ∀ n, B (n + 1) = if f (26 + 4 * (n : Int)) < 3 ∧ (B n).2 < p n then ((n : Int), p n) else B n := fun n => by
    rw [← hB', ← hB', ← hpv']
    rfl
  have pb : ∀ n : Nat, n < 3 → f (26 + 4 * (n : Int)) < 3 → -200 ≤ p n ∧ p n ≤ 200 := fun n h z => by
    rw [← hpv']
    exact psn_bd 5 (bhU_Inv (by omega) I z)
  clear hB' hpv'
  have L1 : ∀ (m k : Nat) (N : Mem) (l9 l10 : PV), k + m = 3 → GI N → N 12 = f → Run2 sx_L_hand L (xcF scr) false 0 (fun x M' => x = 1 ∧ GI M' ∧ M' 12 = M 12) 0 30 [wR 3, wI (B 3).1, wI (psn 5 f), wL (prV f), none, wI (B k).2, wI (B k).1, wI 1, wI (k : Int), l9, l10] [] N := by
    intro m
    induction m with
    | zero =>
      intro k N l9 l10 hk gN hN
      have hk : k = 3 := by omega
      subst hk
      have s := Sme.rf gN
      refine T_iload (q := 32) rfl rfl rfl rfl ?_
      refine T_iconst (q := 33) rfl rfl rfl ?_
      refine T_icmp_ge (q := 36) (tgt := 143) rfl rfl rfl (by decide) (by omega) (by omega) (fun h33 => ?_) (fun h33 => ?_)
      · refine T_iload (q := 145) rfl rfl rfl rfl ?_
        refine T_if_eq (q := 148) (tgt := 167) rfl rfl rfl (by decide) (by omega) (fun h145 => ?_) (fun h145 => ?_)
        · omega
        · refine T_iload_n (q := 149) (i := 1) rfl rfl rfl rfl rfl ?_
          refine T_iload (q := 151) rfl rfl rfl rfl ?_
          refine T_neS (q := 154) (tgt := 167) rfl rfl rfl (by decide) ?_
          refine T_aload_n (q := 155) (i := 0) rfl rfl rfl rfl rfl ?_
          refine T_L1L (q := 158) (b2 := 0) (C := C_L_print) rfl rfl rfl rfl rfl rfl ⟨_, rfl, ⟨rfl, s.1⟩⟩ rfl rfl rfl rfl (fun x M' hc => ?_)
          replace hc := hc _ rfl
          obtain ⟨e2, sm⟩ := hc
          rw [s.e12, hN] at e2
          subst e2
          replace s := s.tr sm
          refine T_lload_n (q := 159) (i := 3) rfl rfl rfl rfl rfl ?_
          refine T_lcmpS (q := 160) rfl rfl rfl ?_
          refine T_if_ne (q := 163) (tgt := 167) rfl rfl rfl (by decide) (by omega) (fun h160 => ?_) (fun h160 => ?_)
          · omega
          · refine T_iconst (q := 164) rfl rfl rfl ?_
            refine T_goto (q := 167) (tgt := 168) rfl rfl rfl (by decide) ?_
            refine T_ret rfl rfl (Or.inr ⟨rfl, (by first | exact Or.inl rfl | exact Or.inr rfl | omega)⟩) ?_
            exact ⟨rfl, s.1, by rw [s.e12, hN, hf]⟩
      · omega
    | succ m ih =>
      intro k N l9 l10 hk gN hN
      have ks : ((k + 1 : Nat) : Int) = (k : Int) + 1 := by omega
      have s := Sme.rf gN
      have hs4 := gN.2.2.1
      have Bk := Bb k (by omega)
      have hh := I.2.2.1 (k : Int) (by omega) (by omega)
      by_cases h3 : f (26 + 4 * (k : Int)) < 3
      · have pk := pb k (by omega) h3
        have Bsk := Bs k
        have J116 : ∀ (N : Mem) (l9 : Int) (v u : Int), GI N → 1 ≤ N 11 1 → hs N (N 11 1) = f → (v, u) = B (k + 1) → Run2 sx_L_hand L (xcF scr) false 0 (fun x M' => x = 1 ∧ GI M' ∧ M' 12 = M 12) 0 116 [wR 3, wI (B 3).1, wI (psn 5 f), wL (prV f), none, wI (B k).2, wI v, wI 1, wI (k : Int), wI l9, wI (p k)] [wI u] N := by
          intro N l9 v u gN n1 hh1 hv
          have s := Sme.rf gN
          have hs6 := gN.2.2.1
          have e1 : v = (B (k + 1)).1 := by rw [← hv]
          have e2 : u = (B (k + 1)).2 := by rw [← hv]
          subst e1
          subst e2
          refine T_istore (q := 118) rfl rfl rfl rfl ?_
          refine T_iload (q := 120) rfl rfl rfl rfl ?_
          refine T_if_eq (q := 123) (tgt := 134) rfl rfl rfl (by decide) (by omega) (fun h120 => ?_) (fun h120 => ?_)
          · omega
          · refine T_aload_n (q := 124) (i := 0) rfl rfl rfl rfl rfl ?_
            refine T_C0 (q := 127) (C := D_undo) rfl rfl rfl rfl rfl ⟨rfl, ⟨s.1, by omega⟩⟩ rfl (fun x M' hc => ?_)
            replace hc := hc rfl
            obtain ⟨e, un⟩ := hc
            have hP := un.e12 s hh1
            have gP := un.1
            refine T_if_lt (q := 130) (tgt := 134) rfl rfl rfl (by decide) (by omega) (fun h127 => ?_) (fun h127 => ?_)
            · omega
            · refine T_iconst (q := 131) rfl rfl rfl ?_
              refine T_goto (q := 134) (tgt := 135) rfl rfl rfl (by decide) ?_
              refine T_istore (q := 137) rfl rfl rfl rfl ?_
              refine T_iinc (q := 140) rfl rfl rfl rfl rfl ?_
              refine T_goto (q := 143) (tgt := 30) rfl rfl rfl (by decide) ?_
              have := ih (k + 1) _ (wI l9) (wI (p k)) (by omega) gP hP
              rw [ks] at this
              exact this
        refine T_iload (q := 32) rfl rfl rfl rfl ?_
        refine T_iconst (q := 33) rfl rfl rfl ?_
        refine T_icmp_ge (q := 36) (tgt := 143) rfl rfl rfl (by decide) (by omega) (by omega) (fun h33 => ?_) (fun h33 => ?_)
        · omega
        · refine T_aload_n (q := 37) (i := 0) rfl rfl rfl rfl rfl ?_
          refine T_iload (q := 39) rfl rfl rfl rfl ?_
          refine T_iconst (q := 40) rfl rfl rfl ?_
          refine O_desk (q := 43) s rfl rfl rfl rfl ⟨by omega, by omega⟩ (by rewrite [hN]; exact dkV_0 _ _) rfl (fun M' s => ?_)
          refine T_istore (q := 45) rfl rfl rfl rfl ?_
          refine T_iload (q := 47) rfl rfl rfl rfl ?_
          refine T_iconst (q := 48) rfl rfl rfl ?_
          refine T_icmp_ge (q := 51) (tgt := 137) rfl rfl rfl (by decide) (by omega) (by omega) (fun h48 => ?_) (fun h48 => ?_)
          · omega
          · refine T_iload (q := 53) rfl rfl rfl rfl ?_
            refine T_if_eq (q := 56) (tgt := 75) rfl rfl rfl (by decide) (by omega) (fun h53 => ?_) (fun h53 => ?_)
            · omega
            · refine T_aload_n (q := 57) (i := 0) rfl rfl rfl rfl rfl ?_
              refine T_iload (q := 59) rfl rfl rfl rfl ?_
              refine T_iload (q := 61) rfl rfl rfl rfl ?_
              refine T_iconst (q := 62) rfl rfl rfl ?_
              refine T_iadd (q := 63) rfl rfl rfl ?_
              refine T_C2 (q := 66) (C := D_hands) rfl rfl rfl rfl rfl ⟨_, _, rfl, ⟨s.1, by omega, by omega⟩⟩ rfl (fun x M' hc => ?_)
              replace hc := hc _ _ rfl
              obtain ⟨e, cd⟩ := hc
              rw [s.e12, hN] at e cd
              subst e
              have hl2 := cd.hl (by rw [s.e11]; omega)
              rw [s.e12, hN] at hl2
              have hf2 := cd.e12
              have hs5 := cd.1.2.2.1
              replace s := Sme.rf cd.1
              refine T_iload (q := 68) rfl rfl rfl rfl ?_
              refine T_neS (q := 71) (tgt := 75) rfl rfl rfl (by decide) ?_
              refine T_iconst (q := 72) rfl rfl rfl ?_
              refine T_goto (q := 75) (tgt := 76) rfl rfl rfl (by decide) ?_
              refine T_istore (q := 78) rfl rfl rfl rfl ?_
              refine T_aload_n (q := 79) (i := 0) rfl rfl rfl rfl rfl ?_
              refine T_iconst (q := 80) rfl rfl rfl ?_
              refine T_iconst (q := 81) rfl rfl rfl ?_
              refine O_ifTurned (q := 84) s rfl rfl rfl rfl (by unfold itOK; omega) (by rewrite [hf2]; exact (show psn 5 (bhU f (k : Int)) = p k from hpv k)) rfl (fun M' s => ?_)
              refine T_istore (q := 86) rfl rfl rfl rfl ?_
              refine T_iload (q := 88) rfl rfl rfl rfl ?_
              refine T_iload (q := 90) rfl rfl rfl rfl ?_
              refine T_icmp_le (q := 93) (tgt := 98) rfl rfl rfl (by decide) (by omega) (by omega) (fun h90 => ?_) (fun h90 => ?_)
              · refine T_iload (q := 100) rfl rfl rfl rfl ?_
                refine T_istore (q := 102) rfl rfl rfl rfl ?_
                refine T_iload (q := 104) rfl rfl rfl rfl ?_
                refine T_iload (q := 106) rfl rfl rfl rfl ?_
                refine T_icmp_le (q := 109) (tgt := 114) rfl rfl rfl (by decide) (by omega) (by omega) (fun h106 => ?_) (fun h106 => ?_)
                · refine T_iload (q := 116) rfl rfl rfl rfl ?_
                  first
                    | (exfalso; omega)
                    | exact J116 _ _ _ _ s.1 (by rw [s.e11]; exact hl2.1) (by rw [s.e11, s.eh]; exact hl2.2) (by rw [Bsk, if_pos ⟨h3, by omega⟩])
                    | exact J116 _ _ _ _ s.1 (by rw [s.e11]; exact hl2.1) (by rw [s.e11, s.eh]; exact hl2.2) (by rw [Bsk, if_neg (fun z => by have := z.2; omega)])
                · refine T_iload (q := 111) rfl rfl rfl rfl ?_
                  refine T_goto (q := 114) (tgt := 116) rfl rfl rfl (by decide) ?_
                  first
                    | (exfalso; omega)
                    | exact J116 _ _ _ _ s.1 (by rw [s.e11]; exact hl2.1) (by rw [s.e11, s.eh]; exact hl2.2) (by rw [Bsk, if_pos ⟨h3, by omega⟩])
                    | exact J116 _ _ _ _ s.1 (by rw [s.e11]; exact hl2.1) (by rw [s.e11, s.eh]; exact hl2.2) (by rw [Bsk, if_neg (fun z => by have := z.2; omega)])
              · refine T_iload (q := 95) rfl rfl rfl rfl ?_
                refine T_goto (q := 98) (tgt := 100) rfl rfl rfl (by decide) ?_
                refine T_istore (q := 102) rfl rfl rfl rfl ?_
                refine T_iload (q := 104) rfl rfl rfl rfl ?_
                refine T_iload (q := 106) rfl rfl rfl rfl ?_
                refine T_icmp_le (q := 109) (tgt := 114) rfl rfl rfl (by decide) (by omega) (by omega) (fun h106 => ?_) (fun h106 => ?_)
                · refine T_iload (q := 116) rfl rfl rfl rfl ?_
                  first
                    | (exfalso; omega)
                    | exact J116 _ _ _ _ s.1 (by rw [s.e11]; exact hl2.1) (by rw [s.e11, s.eh]; exact hl2.2) (by rw [Bsk, if_pos ⟨h3, by omega⟩])
                    | exact J116 _ _ _ _ s.1 (by rw [s.e11]; exact hl2.1) (by rw [s.e11, s.eh]; exact hl2.2) (by rw [Bsk, if_neg (fun z => by have := z.2; omega)])
                · refine T_iload (q := 111) rfl rfl rfl rfl ?_
                  refine T_goto (q := 114) (tgt := 116) rfl rfl rfl (by decide) ?_
                  first
                    | (exfalso; omega)
                    | exact J116 _ _ _ _ s.1 (by rw [s.e11]; exact hl2.1) (by rw [s.e11, s.eh]; exact hl2.2) (by rw [Bsk, if_pos ⟨h3, by omega⟩])
                    | exact J116 _ _ _ _ s.1 (by rw [s.e11]; exact hl2.1) (by rw [s.e11, s.eh]; exact hl2.2) (by rw [Bsk, if_neg (fun z => by have := z.2; omega)])
      · have Bsk : B (k + 1) = B k := by rw [Bs k, if_neg (fun z => h3 z.1)]
        refine T_iload (q := 32) rfl rfl rfl rfl ?_
        refine T_iconst (q := 33) rfl rfl rfl ?_
        refine T_icmp_ge (q := 36) (tgt := 143) rfl rfl rfl (by decide) (by omega) (by omega) (fun h33 => ?_) (fun h33 => ?_)
        · omega
        · refine T_aload_n (q := 37) (i := 0) rfl rfl rfl rfl rfl ?_
          refine T_iload (q := 39) rfl rfl rfl rfl ?_
          refine T_iconst (q := 40) rfl rfl rfl ?_
          refine O_desk (q := 43) s rfl rfl rfl rfl ⟨by omega, by omega⟩ (by rewrite [hN]; exact dkV_0 _ _) rfl (fun M' s => ?_)
          refine T_istore (q := 45) rfl rfl rfl rfl ?_
          refine T_iload (q := 47) rfl rfl rfl rfl ?_
          refine T_iconst (q := 48) rfl rfl rfl ?_
          refine T_icmp_ge (q := 51) (tgt := 137) rfl rfl rfl (by decide) (by omega) (by omega) (fun h48 => ?_) (fun h48 => ?_)
          · refine T_iinc (q := 140) rfl rfl rfl rfl rfl ?_
            refine T_goto (q := 143) (tgt := 30) rfl rfl rfl (by decide) ?_
            have := ih (k + 1) _ (wI (f (26 + 4 * (k : Int)))) l10 (by omega) s.1 (by rw [s.e12, hN])
            rw [ks, Bsk] at this
            exact this
          · omega
  have s := Sme.rf g
  refine T_aload_n (q := 1) (i := 0) rfl rfl rfl rfl rfl ?_
  refine O_bestHand (q := 4) s rfl rfl rfl rfl trivial (by rewrite [hf]; exact (show (bhP f 3).1 = (B 3).1 from congrArg Prod.fst (hB 3))) rfl (fun M' s => ?_)
  refine T_istore_n (q := 5) (i := 1) rfl rfl rfl rfl rfl ?_
  refine T_aload_n (q := 6) (i := 0) rfl rfl rfl rfl rfl ?_
  refine T_iconst (q := 7) rfl rfl rfl ?_
  refine T_iconst (q := 8) rfl rfl rfl ?_
  refine O_ifTurned (q := 11) s rfl rfl rfl rfl (by unfold itOK; omega) (by rewrite [hf]; exact (show itV 5 0 f = psn 5 f from rfl)) rfl (fun M' s => ?_)
  refine T_istore_n (q := 12) (i := 2) rfl rfl rfl rfl rfl ?_
  refine T_aload_n (q := 13) (i := 0) rfl rfl rfl rfl rfl ?_
  refine T_L1L (q := 16) (b2 := 0) (C := C_L_print) rfl rfl rfl rfl rfl rfl ⟨_, rfl, ⟨rfl, s.1⟩⟩ rfl rfl rfl rfl (fun x M' hc => ?_)
  replace hc := hc _ rfl
  obtain ⟨e, sm⟩ := hc
  rw [s.e12, hf] at e
  subst e
  replace s := s.tr sm
  refine T_lstore_n (q := 17) (i := 3) rfl rfl rfl rfl rfl rfl ?_
  refine T_iload_n (q := 18) (i := 2) rfl rfl rfl rfl rfl ?_
  refine T_istore (q := 20) rfl rfl rfl rfl ?_
  refine T_bipush (q := 22) rfl rfl rfl (by decide) ?_
  refine T_istore (q := 24) rfl rfl rfl rfl ?_
  refine T_iconst (q := 25) rfl rfl rfl ?_
  refine T_istore (q := 27) rfl rfl rfl rfl ?_
  refine T_iconst (q := 28) rfl rfl rfl ?_
  refine T_istore (q := 30) rfl rfl rfl rfl ?_
  have := L1 3 0 _ none none rfl s.1 (by rw [s.e12, hf])
  rw [B0] at this
  exact this
