/-! THE LAW'S small and hand -/
abbrev C_L_small : Ct2 := (1, false, 0, fun as M => ∃ (o : Nat), as = [wR o] ∧ (o = 3 ∧ GI M ∧ Ok2 (M 12)), fun as M x M' => ∀ (o : Nat), as = [wR o] → (x = 1 ∧ GI M' ∧ M' 12 = M 12))
def sx_L_small : Sx2 := (tb_L_small, kLL, kIL, [(105, D_leastSmall), (62, D_count), (39, D_set), (85, D_ifTurned), (102, D_undo)], [(94, C_L_print)], 2)
set_option maxRecDepth 100000 in
set_option maxHeartbeats 2000000 in
theorem ok_L_small (L : Nat) (scr : Int → Int) (hL : L < 2147483648) (o : Nat) (M : Mem) (hp : o = 3 ∧ GI M ∧ Ok2 (M 12)) : Run2 sx_L_small L (xcF scr) false 0 (fun x M' => x = 1 ∧ GI M' ∧ M' 12 = M 12) 0 0 [wR o, none, none, none, none, none, none, none] [] M := by
  obtain ⟨rfl, g, O⟩ := hp
  have hs4 := g.2.2.1
  obtain ⟨f, hf⟩ : ∃ f, M 12 = f := ⟨_, rfl⟩
  rw [hf] at O
  have I := O.1
  have f0 : 0 ≤ f 0 ∧ f 0 ≤ 200 := I.1.1.1
  have f9 := (gone_bd I).2
  obtain ⟨l, hl⟩ : ∃ l, Hd (lsm f 201 0 = l) := ⟨_, rfl⟩
  obtain ⟨c, hcv⟩ : ∃ c : Int → Int, Hd (∀ v, tnN N200 (us f 0 v) 9 - f 9 = c v) := ⟨fun v => tnN N200 (us f 0 v) 9 - f 9, fun _ => rfl⟩
  have hcv' : ∀ v, tnN N200 (us f 0 v) 9 - f 9 = c v := hcv
  have hl1 : (l = -6 ∧ c 200 ≠ 0) ∨ ((0 ≤ l ∧ l < 201) ∧ c l = 0 ∧ ∀ j : Int, 0 ≤ j → j < l → c j ≠ 0) := by
    have h := lsm_1 (f := f) 201 0
    rw [show lsm f 201 0 = l from hl] at h
    rcases h with ⟨a, b⟩ | ⟨a, b, d, e⟩
    · refine Or.inl ⟨a, ?_⟩
      have := b 200 (by omega) (by omega)
      have := hcv' 200
      omega
    · refine Or.inr ⟨⟨a, by omega⟩, ?_, fun j x y => ?_⟩
      · have := hcv' l
        omega
      · have := e j x y
        have := hcv' j
        omega
  have cb : ∀ v, 0 ≤ v → v ≤ 200 → -64 ≤ c v ∧ c v ≤ 64 := fun v a b => by
    have := (gone_bd (tnN_Inv N200 (us f 0 v) (us0_Inv ⟨a, b⟩ I)).1).2
    have := hcv' v
    omega
  clear hcv'
  have L1 : ∀ (m k : Nat) (N : Mem) (l7 : PV), k + m = 2 → GI N → N 12 = f → Run2 sx_L_small L (xcF scr) false 0 (fun x M' => x = 1 ∧ GI M' ∧ M' 12 = M 12) 0 43 [wR 3, wI l, wI (f 0), wL (prV f), none, wI 1, wI (k : Int), l7] [] N := by
    intro m
    induction m with
    | zero =>
      intro k N l7 hk gN hN
      have hk : k = 2 := by omega
      subst hk
      have s := Sme.rf gN
      refine T_iload (q := 45) rfl rfl rfl rfl ?_
      refine T_iconst (q := 46) rfl rfl rfl ?_
      refine T_icmp_ge (q := 49) (tgt := 139) rfl rfl rfl (by decide) (by omega) (by omega) (fun h46 => ?_) (fun h46 => ?_)
      · refine T_iload (q := 141) rfl rfl rfl rfl ?_
        refine T_if_eq (q := 144) (tgt := 157) rfl rfl rfl (by decide) (by omega) (fun h141 => ?_) (fun h141 => ?_)
        · omega
        · refine T_aload_n (q := 145) (i := 0) rfl rfl rfl rfl rfl ?_
          refine T_L1L (q := 148) (b2 := 0) (C := C_L_print) rfl rfl rfl rfl rfl rfl ⟨_, rfl, ⟨rfl, s.1⟩⟩ rfl rfl rfl rfl (fun x M' hc => ?_)
          replace hc := hc _ rfl
          obtain ⟨e2, sm⟩ := hc
          rw [s.e12, hN] at e2
          subst e2
          replace s := s.tr sm
          refine T_lload_n (q := 149) (i := 3) rfl rfl rfl rfl rfl ?_
          refine T_lcmpS (q := 150) rfl rfl rfl ?_
          refine T_if_ne (q := 153) (tgt := 157) rfl rfl rfl (by decide) (by omega) (fun h150 => ?_) (fun h150 => ?_)
          · omega
          · refine T_iconst (q := 154) rfl rfl rfl ?_
            refine T_goto (q := 157) (tgt := 158) rfl rfl rfl (by decide) ?_
            refine T_ret rfl rfl (Or.inr ⟨rfl, (by first | exact Or.inl rfl | exact Or.inr rfl | omega)⟩) ?_
            exact ⟨rfl, s.1, by rw [s.e12, hN, hf]⟩
      · omega
    | succ m ih =>
      intro k N l7 hk gN hN
      have ks : ((k + 1 : Nat) : Int) = (k : Int) + 1 := by omega
      have s := Sme.rf gN
      have hs4 := gN.2.2.1
      have J68 : ∀ v, (0 ≤ l ∧ v = l - (k : Int)) ∨ (l = -6 ∧ v = 200) → Run2 sx_L_small L (xcF scr) false 0 (fun x M' => x = 1 ∧ GI M' ∧ M' 12 = M 12) 0 68 [wR 3, wI l, wI (f 0), wL (prV f), none, wI 1, wI (k : Int), l7] [wI v] N := by
        intro v hv
        have hv2 : v < 0 ∨ ((0 ≤ v ∧ v ≤ 200) ∧ (-64 ≤ c v ∧ c v ≤ 64) ∧ ((c v = 0 ∧ 0 ≤ l ∧ (k : Int) = 0) ∨ (c v ≠ 0 ∧ (l < 0 ∨ (k : Int) = 1)))) := by
          rcases hl1 with ⟨a, b⟩ | ⟨a, b, d⟩
          · have hv : v = 200 := by omega
            subst hv
            exact Or.inr ⟨by omega, cb _ (by omega) (by omega), Or.inr ⟨b, by omega⟩⟩
          · by_cases z : v < 0
            · exact Or.inl z
            · refine Or.inr ⟨by omega, cb _ (by omega) (by omega), ?_⟩
              by_cases z2 : k = 0
              · subst z2
                rw [show v = l by omega]
                exact Or.inl ⟨b, by omega, rfl⟩
              · exact Or.inr ⟨d v (by omega) (by omega), by omega⟩
        refine T_istore (q := 70) rfl rfl rfl rfl ?_
        refine T_iload (q := 72) rfl rfl rfl rfl ?_
        refine T_if_lt (q := 75) (tgt := 133) rfl rfl rfl (by decide) (by omega) (fun h72 => ?_) (fun h72 => ?_)
        · refine T_iinc (q := 136) rfl rfl rfl rfl rfl ?_
          refine T_goto (q := 139) (tgt := 43) rfl rfl rfl (by decide) ?_
          have := ih (k + 1) _ (wI v) (by omega) (by first | exact gP | exact gN) (by first | exact hP | exact hN)
          rw [ks] at this
          exact this
        · refine T_aload_n (q := 76) (i := 0) rfl rfl rfl rfl rfl ?_
          refine T_iconst (q := 77) rfl rfl rfl ?_
          refine T_iload (q := 79) rfl rfl rfl rfl ?_
          refine T_C2 (q := 82) (C := D_set) rfl rfl rfl rfl rfl ⟨_, _, rfl, ⟨s.1, Or.inl ⟨rfl, by omega, by omega⟩⟩⟩ rfl (fun x M' hc => ?_)
          replace hc := hc _ _ rfl
          obtain ⟨e, cd⟩ := hc
          rw [s.e12, hN] at e cd
          subst e
          have hl2 := cd.hl (by rw [s.e11]; omega)
          rw [s.e12, hN] at hl2
          have hf2 := cd.e12
          have hs5 := cd.1.2.2.1
          replace s := Sme.rf cd.1
          refine T_iload_n (q := 83) (i := 2) rfl rfl rfl rfl rfl ?_
          refine T_neS (q := 86) (tgt := 130) rfl rfl rfl (by decide) ?_
          refine T_aload_n (q := 87) (i := 0) rfl rfl rfl rfl rfl ?_
          refine T_sipush (q := 90) rfl rfl rfl (by decide) ?_
          refine T_iconst (q := 91) rfl rfl rfl ?_
          refine O_ifTurned (q := 94) s rfl rfl rfl rfl (by unfold itOK; omega) (by rewrite [hf2, itV_1, show ((200 : Int)).toNat = N200 from N200_eq.symm, show us f 0 v 9 = f 9 from us_n (by omega)]; exact (show tnN N200 (us f 0 v) 9 - f 9 = c v from hcv v)) rfl (fun M' s => ?_)
          refine T_if_ne (q := 97) (tgt := 101) rfl rfl rfl (by decide) (by omega) (fun h94 => ?_) (fun h94 => ?_)
          · refine T_iconst (q := 102) rfl rfl rfl ?_
            refine T_iload_n (q := 103) (i := 1) rfl rfl rfl rfl rfl ?_
            refine T_if_lt (q := 106) (tgt := 115) rfl rfl rfl (by decide) (by omega) (fun h103 => ?_) (fun h103 => ?_)
            · refine T_iconst (q := 116) rfl rfl rfl ?_
              refine T_icmp_ne (q := 119) (tgt := 130) rfl rfl rfl (by decide) (by omega) (by omega) (fun h116 => ?_) (fun h116 => ?_)
              · omega
              · refine T_aload_n (q := 120) (i := 0) rfl rfl rfl rfl rfl ?_
                refine T_C0 (q := 123) (C := D_undo) rfl rfl rfl rfl rfl ⟨rfl, ⟨s.1, by rw [s.e11]; omega⟩⟩ rfl (fun x M' hc => ?_)
                replace hc := hc rfl
                obtain ⟨e, un⟩ := hc
                rw [s.e11] at e
                have hP := un.e12 s hl2.2
                have gP := un.1
                refine T_if_lt (q := 126) (tgt := 130) rfl rfl rfl (by decide) (by omega) (fun h123 => ?_) (fun h123 => ?_)
                · omega
                · refine T_iconst (q := 127) rfl rfl rfl ?_
                  refine T_goto (q := 130) (tgt := 131) rfl rfl rfl (by decide) ?_
                  refine T_istore (q := 133) rfl rfl rfl rfl ?_
                  refine T_iinc (q := 136) rfl rfl rfl rfl rfl ?_
                  refine T_goto (q := 139) (tgt := 43) rfl rfl rfl (by decide) ?_
                  have := ih (k + 1) _ (wI v) (by omega) (by first | exact gP | exact gN) (by first | exact hP | exact hN)
                  rw [ks] at this
                  exact this
            · refine T_iload (q := 108) rfl rfl rfl rfl ?_
              refine T_if_ne (q := 111) (tgt := 115) rfl rfl rfl (by decide) (by omega) (fun h108 => ?_) (fun h108 => ?_)
              · refine T_iconst (q := 116) rfl rfl rfl ?_
                refine T_icmp_ne (q := 119) (tgt := 130) rfl rfl rfl (by decide) (by omega) (by omega) (fun h116 => ?_) (fun h116 => ?_)
                · omega
                · refine T_aload_n (q := 120) (i := 0) rfl rfl rfl rfl rfl ?_
                  refine T_C0 (q := 123) (C := D_undo) rfl rfl rfl rfl rfl ⟨rfl, ⟨s.1, by rw [s.e11]; omega⟩⟩ rfl (fun x M' hc => ?_)
                  replace hc := hc rfl
                  obtain ⟨e, un⟩ := hc
                  rw [s.e11] at e
                  have hP := un.e12 s hl2.2
                  have gP := un.1
                  refine T_if_lt (q := 126) (tgt := 130) rfl rfl rfl (by decide) (by omega) (fun h123 => ?_) (fun h123 => ?_)
                  · omega
                  · refine T_iconst (q := 127) rfl rfl rfl ?_
                    refine T_goto (q := 130) (tgt := 131) rfl rfl rfl (by decide) ?_
                    refine T_istore (q := 133) rfl rfl rfl rfl ?_
                    refine T_iinc (q := 136) rfl rfl rfl rfl rfl ?_
                    refine T_goto (q := 139) (tgt := 43) rfl rfl rfl (by decide) ?_
                    have := ih (k + 1) _ (wI v) (by omega) (by first | exact gP | exact gN) (by first | exact hP | exact hN)
                    rw [ks] at this
                    exact this
              · refine T_iconst (q := 112) rfl rfl rfl ?_
                refine T_goto (q := 115) (tgt := 116) rfl rfl rfl (by decide) ?_
                refine T_icmp_ne (q := 119) (tgt := 130) rfl rfl rfl (by decide) (by omega) (by omega) (fun h116 => ?_) (fun h116 => ?_)
                · exfalso; omega
                · omega
          · refine T_iconst (q := 98) rfl rfl rfl ?_
            refine T_goto (q := 101) (tgt := 102) rfl rfl rfl (by decide) ?_
            refine T_iload_n (q := 103) (i := 1) rfl rfl rfl rfl rfl ?_
            refine T_if_lt (q := 106) (tgt := 115) rfl rfl rfl (by decide) (by omega) (fun h103 => ?_) (fun h103 => ?_)
            · refine T_iconst (q := 116) rfl rfl rfl ?_
              refine T_icmp_ne (q := 119) (tgt := 130) rfl rfl rfl (by decide) (by omega) (by omega) (fun h116 => ?_) (fun h116 => ?_)
              · exfalso; omega
              · omega
            · refine T_iload (q := 108) rfl rfl rfl rfl ?_
              refine T_if_ne (q := 111) (tgt := 115) rfl rfl rfl (by decide) (by omega) (fun h108 => ?_) (fun h108 => ?_)
              · refine T_iconst (q := 116) rfl rfl rfl ?_
                refine T_icmp_ne (q := 119) (tgt := 130) rfl rfl rfl (by decide) (by omega) (by omega) (fun h116 => ?_) (fun h116 => ?_)
                · exfalso; omega
                · omega
              · refine T_iconst (q := 112) rfl rfl rfl ?_
                refine T_goto (q := 115) (tgt := 116) rfl rfl rfl (by decide) ?_
                refine T_icmp_ne (q := 119) (tgt := 130) rfl rfl rfl (by decide) (by omega) (by omega) (fun h116 => ?_) (fun h116 => ?_)
                · omega
                · refine T_aload_n (q := 120) (i := 0) rfl rfl rfl rfl rfl ?_
                  refine T_C0 (q := 123) (C := D_undo) rfl rfl rfl rfl rfl ⟨rfl, ⟨s.1, by rw [s.e11]; omega⟩⟩ rfl (fun x M' hc => ?_)
                  replace hc := hc rfl
                  obtain ⟨e, un⟩ := hc
                  rw [s.e11] at e
                  have hP := un.e12 s hl2.2
                  have gP := un.1
                  refine T_if_lt (q := 126) (tgt := 130) rfl rfl rfl (by decide) (by omega) (fun h123 => ?_) (fun h123 => ?_)
                  · omega
                  · refine T_iconst (q := 127) rfl rfl rfl ?_
                    refine T_goto (q := 130) (tgt := 131) rfl rfl rfl (by decide) ?_
                    refine T_istore (q := 133) rfl rfl rfl rfl ?_
                    refine T_iinc (q := 136) rfl rfl rfl rfl rfl ?_
                    refine T_goto (q := 139) (tgt := 43) rfl rfl rfl (by decide) ?_
                    have := ih (k + 1) _ (wI v) (by omega) (by first | exact gP | exact gN) (by first | exact hP | exact hN)
                    rw [ks] at this
                    exact this
      refine T_iload (q := 45) rfl rfl rfl rfl ?_
      refine T_iconst (q := 46) rfl rfl rfl ?_
      refine T_icmp_ge (q := 49) (tgt := 139) rfl rfl rfl (by decide) (by omega) (by omega) (fun h46 => ?_) (fun h46 => ?_)
      · omega
      · refine T_iload (q := 51) rfl rfl rfl rfl ?_
        refine T_if_eq (q := 54) (tgt := 139) rfl rfl rfl (by decide) (by omega) (fun h51 => ?_) (fun h51 => ?_)
        · omega
        · refine T_iload_n (q := 55) (i := 1) rfl rfl rfl rfl rfl ?_
          refine T_if_ge (q := 58) (tgt := 64) rfl rfl rfl (by decide) (by omega) (fun h55 => ?_) (fun h55 => ?_)
          · refine T_iload_n (q := 65) (i := 1) rfl rfl rfl rfl rfl ?_
            refine T_iload (q := 67) rfl rfl rfl rfl ?_
            refine T_isub (q := 68) rfl rfl rfl ?_
            first
              | exact J68 _ (Or.inl ⟨by omega, rfl⟩)
              | exact J68 _ (Or.inr ⟨by omega, rfl⟩)
          · refine T_sipush (q := 61) rfl rfl rfl (by decide) ?_
            refine T_goto (q := 64) (tgt := 68) rfl rfl rfl (by decide) ?_
            first
              | exact J68 _ (Or.inl ⟨by omega, rfl⟩)
              | exact J68 _ (Or.inr ⟨by omega, rfl⟩)
  have hl2 : l = -6 ∨ (0 ≤ l ∧ l < 201) := by omega
  have s := Sme.rf g
  refine T_aload_n (q := 1) (i := 0) rfl rfl rfl rfl rfl ?_
  refine O_leastSmall (q := 4) s rfl rfl rfl rfl trivial (by rewrite [hf]; exact hl) rfl (fun M' s => ?_)
  refine T_istore_n (q := 5) (i := 1) rfl rfl rfl rfl rfl ?_
  refine T_aload_n (q := 6) (i := 0) rfl rfl rfl rfl rfl ?_
  refine T_iconst (q := 7) rfl rfl rfl ?_
  refine O_count (q := 10) s rfl rfl rfl rfl (by decide) (by rewrite [hf]; exact cnV_0 _ _) rfl (fun M' s => ?_)
  refine T_istore_n (q := 11) (i := 2) rfl rfl rfl rfl rfl ?_
  refine T_aload_n (q := 12) (i := 0) rfl rfl rfl rfl rfl ?_
  refine T_L1L (q := 15) (b2 := 0) (C := C_L_print) rfl rfl rfl rfl rfl rfl ⟨_, rfl, ⟨rfl, s.1⟩⟩ rfl rfl rfl rfl (fun x M' hc => ?_)
  replace hc := hc _ rfl
  obtain ⟨e, sm⟩ := hc
  rw [s.e12, hf] at e
  subst e
  replace s := s.tr sm
  refine T_lstore_n (q := 16) (i := 3) rfl rfl rfl rfl rfl rfl ?_
  refine T_iload_n (q := 17) (i := 1) rfl rfl rfl rfl rfl ?_
  refine T_bipush (q := 19) rfl rfl rfl (by decide) ?_
  refine T_icmp_eq (q := 22) (tgt := 33) rfl rfl rfl (by decide) (by omega) (by omega) (fun h19 => ?_) (fun h19 => ?_)
  · refine T_iconst (q := 34) rfl rfl rfl ?_
    refine T_goto (q := 37) (tgt := 38) rfl rfl rfl (by decide) ?_
    refine T_istore (q := 40) rfl rfl rfl rfl ?_
    refine T_iconst (q := 41) rfl rfl rfl ?_
    refine T_istore (q := 43) rfl rfl rfl rfl ?_
    exact L1 2 0 _ none rfl s.1 (by rw [s.e12, hf])
  · refine T_iload_n (q := 23) (i := 1) rfl rfl rfl rfl rfl ?_
    refine T_if_lt (q := 26) (tgt := 37) rfl rfl rfl (by decide) (by omega) (fun h23 => ?_) (fun h23 => ?_)
    · exfalso; omega
    · refine T_iload_n (q := 27) (i := 1) rfl rfl rfl rfl rfl ?_
      refine T_sipush (q := 30) rfl rfl rfl (by decide) ?_
      refine T_icmp_gt (q := 33) (tgt := 37) rfl rfl rfl (by decide) (by omega) (by omega) (fun h30 => ?_) (fun h30 => ?_)
      · exfalso; omega
      · refine T_iconst (q := 34) rfl rfl rfl ?_
        refine T_goto (q := 37) (tgt := 38) rfl rfl rfl (by decide) ?_
        refine T_istore (q := 40) rfl rfl rfl rfl ?_
        refine T_iconst (q := 41) rfl rfl rfl ?_
        refine T_istore (q := 43) rfl rfl rfl rfl ?_
        exact L1 2 0 _ none rfl s.1 (by rw [s.e12, hf])
