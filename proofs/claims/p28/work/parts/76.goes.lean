/-! THE LAW'S goes -/
theorem cnV_11s (M : Mem) {f : Int → Int} {t : Int} (h : sbk f t 10 = f 10 + 1) : cnV M (sbk f t) 11 = f 10 + 1 := h
/-- two changes taken back -/
theorem und2 {N1 N2 P1 : Mem} {N2' N1' : Mem} {f g : Int → Int} (h1 : 1 ≤ N1 11 1) (hh : hs N1 (N1 11 1) = f) (s1 : Sme N1 N1') (c : Chd N1' N2 g) (s2 : Sme N2 N2') (u : Und N2' P1) : 1 ≤ P1 11 1 ∧ hs P1 (P1 11 1) = f := by
  have sz := c.sz
  rw [s1.e11] at sz
  have r4 := c.1.2.2.1
  have b1 : N1 11 1 ≤ 4 := by
    have := s1.1.2.2.1
    rw [s1.e11] at this
    exact this.2
  obtain ⟨-, -, u1, uh, -⟩ := u
  rw [s2.e11] at u1
  have e : hs P1 (P1 11 1) = hs N2 (N2 11 1 - 1) := by rw [uh, s2.eh, u1]
  have q := c.2.1.2.2 (N2 11 1 - 1)
  rw [s1.e11, s1.e12] at q
  by_cases z : N1 11 1 = 4
  · rw [if_pos z] at sz
    refine ⟨by omega, ?_⟩
    rw [e, q (by omega) (by omega), if_neg (by omega), if_pos z, s1.eh, show N2 11 1 - 1 + 1 = N1 11 1 by omega, hh]
  · rw [if_neg z] at sz
    refine ⟨by omega, ?_⟩
    rw [e, q (by omega) (by omega), if_neg (by omega), if_neg z, s1.eh, show N2 11 1 - 1 = N1 11 1 by omega, hh]
abbrev C_L_goes : Ct2 := (2, false, 1, fun as M => ∃ (o : Nat) (t : Int), as = [wR o, wI t] ∧ (o = 3 ∧ GI M ∧ Ok2 (M 12) ∧ 0 ≤ t ∧ t < 12), fun as M x M' => ∀ (o : Nat) (t : Int), as = [wR o, wI t] → (x = 1 ∧ GI M' ∧ M' 12 = M 12))
def sx_L_goes : Sx2 := (tb_L_goes, kLL, kIL, [(62, D_count), (65, D_trunk), (55, D_sendBack), (68, D_pieces), (51, D_mend), (91, D_fate), (88, D_untilGone), (102, D_undo)], [(94, C_L_print), (98, C_L_trunks)], 2)
set_option maxRecDepth 100000 in
set_option maxHeartbeats 4000000 in
theorem goes_N (L : Nat) (scr : Int → Int) (hL : L < 2147483648) (t : Int) (M : Mem) (g : GI M) (O : Ok2 (M 12)) (ht : 0 ≤ t ∧ t < 12) (hw0 : ¬ wtT (M 12) t) : Run2 sx_L_goes L (xcF scr) false 1 (fun x M' => x = 1 ∧ GI M' ∧ M' 12 = M 12) 0 0 [wR 3, wI t, none, none, none, none, none, none] [] M := by
  obtain ⟨f, hf⟩ : ∃ f, M 12 = f := ⟨_, rfl⟩
  rw [hf] at O
  have hw := hw0
  rw [hf] at hw
  have i7 := O.1.i7
  have s := Sme.rf g
  have J26 : ∀ N, Sme M N → Run2 sx_L_goes L (xcF scr) false 1 (fun x M' => x = 1 ∧ GI M' ∧ M' 12 = M 12) 0 24 [wR 3, wI t, none, none, none, none, none, none] [] N := by
    intro N s
    by_cases hT : hasT f t
    · refine T_iconst (q := 25) rfl rfl rfl ?_
      refine T_istore_n (q := 26) (i := 2) rfl rfl rfl rfl rfl ?_
      refine T_aload_n (q := 27) (i := 0) rfl rfl rfl rfl rfl ?_
      refine T_L1L (q := 30) (b2 := 0) (C := C_L_print) rfl rfl rfl rfl rfl rfl ⟨_, rfl, ⟨rfl, s.1⟩⟩ rfl rfl rfl rfl (fun x M' hc => ?_)
      replace hc := hc _ rfl
      obtain ⟨e, sm⟩ := hc
      rw [s.e12, hf] at e
      subst e
      replace s := s.tr sm
      refine T_lstore_n (q := 31) (i := 3) rfl rfl rfl rfl rfl rfl ?_
      refine T_aload_n (q := 32) (i := 0) rfl rfl rfl rfl rfl ?_
      refine T_iload_n (q := 33) (i := 1) rfl rfl rfl rfl rfl ?_
      refine T_iconst (q := 34) rfl rfl rfl ?_
      refine O_trunk (q := 37) s rfl rfl rfl rfl ⟨by rw [hf]; exact hT, by omega, by omega⟩ (by rewrite [hf]; exact trV_5 _ _) rfl (fun M' s => ?_)
      refine T_istore (q := 39) rfl rfl rfl rfl ?_
      refine T_aload_n (q := 40) (i := 0) rfl rfl rfl rfl rfl ?_
      refine T_bipush (q := 42) rfl rfl rfl (by decide) ?_
      refine O_count (q := 45) s rfl rfl rfl rfl (by decide) (by rewrite [hf]; exact cnV_11 _ _) rfl (fun M' s => ?_)
      refine T_istore (q := 47) rfl rfl rfl rfl ?_
      refine T_iload_n (q := 48) (i := 2) rfl rfl rfl rfl rfl ?_
      refine T_if_ne (q := 51) (tgt := 75) rfl rfl rfl (by decide) (by omega) (fun h48 => ?_) (fun h48 => ?_)
      · omega
      · refine T_aload_n (q := 52) (i := 0) rfl rfl rfl rfl rfl ?_
        refine T_iload_n (q := 53) (i := 1) rfl rfl rfl rfl rfl ?_
        refine T_C1 (q := 56) (C := D_sendBack) rfl rfl rfl rfl rfl ⟨_, rfl, ⟨s.1, by omega⟩⟩ rfl (fun x M' hc => ?_)
        replace hc := hc _ rfl
        rcases hc with ⟨-, e, sm⟩ | ⟨z, -⟩
        rotate_left
        · exact absurd z (by rw [s.e12, hf]; exact hw)
        subst e
        replace s := s.tr sm
        refine T_iconst (q := 57) rfl rfl rfl ?_
        refine T_icmp_ne (q := 60) (tgt := 73) rfl rfl rfl (by decide) (by omega) (by omega) (fun h57 => ?_) (fun h57 => ?_)
        · omega
        · refine T_aload_n (q := 61) (i := 0) rfl rfl rfl rfl rfl ?_
          refine T_L1L (q := 64) (b2 := 0) (C := C_L_print) rfl rfl rfl rfl rfl rfl ⟨_, rfl, ⟨rfl, s.1⟩⟩ rfl rfl rfl rfl (fun x M' hc => ?_)
          replace hc := hc _ rfl
          obtain ⟨e, sm⟩ := hc
          rw [s.e12, hf] at e
          subst e
          replace s := s.tr sm
          refine T_lload_n (q := 65) (i := 3) rfl rfl rfl rfl rfl ?_
          refine T_lcmpS (q := 66) rfl rfl rfl ?_
          refine T_if_ne (q := 69) (tgt := 73) rfl rfl rfl (by decide) (by omega) (fun h66 => ?_) (fun h66 => ?_)
          · omega
          · refine T_iconst (q := 70) rfl rfl rfl ?_
            refine T_goto (q := 73) (tgt := 74) rfl rfl rfl (by decide) ?_
            refine T_ret rfl rfl (Or.inr ⟨rfl, (by first | exact Or.inl rfl | exact Or.inr rfl | omega)⟩) ?_
            exact ⟨rfl, s.1, by rw [s.e12]⟩
    · refine T_iconst (q := 25) rfl rfl rfl ?_
      refine T_istore_n (q := 26) (i := 2) rfl rfl rfl rfl rfl ?_
      refine T_aload_n (q := 27) (i := 0) rfl rfl rfl rfl rfl ?_
      refine T_L1L (q := 30) (b2 := 0) (C := C_L_print) rfl rfl rfl rfl rfl rfl ⟨_, rfl, ⟨rfl, s.1⟩⟩ rfl rfl rfl rfl (fun x M' hc => ?_)
      replace hc := hc _ rfl
      obtain ⟨e, sm⟩ := hc
      rw [s.e12, hf] at e
      subst e
      replace s := s.tr sm
      refine T_lstore_n (q := 31) (i := 3) rfl rfl rfl rfl rfl rfl ?_
      refine T_aload_n (q := 32) (i := 0) rfl rfl rfl rfl rfl ?_
      refine T_iload_n (q := 33) (i := 1) rfl rfl rfl rfl rfl ?_
      refine T_iconst (q := 34) rfl rfl rfl ?_
      refine O_trunkN (q := 37) s rfl rfl rfl rfl ⟨by rw [hf]; exact hT, by omega, by omega⟩ rfl rfl (fun M' s => ?_)
      refine T_istore (q := 39) rfl rfl rfl rfl ?_
      refine T_aload_n (q := 40) (i := 0) rfl rfl rfl rfl rfl ?_
      refine T_bipush (q := 42) rfl rfl rfl (by decide) ?_
      refine O_count (q := 45) s rfl rfl rfl rfl (by decide) (by rewrite [hf]; exact cnV_11 _ _) rfl (fun M' s => ?_)
      refine T_istore (q := 47) rfl rfl rfl rfl ?_
      refine T_iload_n (q := 48) (i := 2) rfl rfl rfl rfl rfl ?_
      refine T_if_ne (q := 51) (tgt := 75) rfl rfl rfl (by decide) (by omega) (fun h48 => ?_) (fun h48 => ?_)
      · omega
      · refine T_aload_n (q := 52) (i := 0) rfl rfl rfl rfl rfl ?_
        refine T_iload_n (q := 53) (i := 1) rfl rfl rfl rfl rfl ?_
        refine T_C1 (q := 56) (C := D_sendBack) rfl rfl rfl rfl rfl ⟨_, rfl, ⟨s.1, by omega⟩⟩ rfl (fun x M' hc => ?_)
        replace hc := hc _ rfl
        rcases hc with ⟨-, e, sm⟩ | ⟨z, -⟩
        rotate_left
        · exact absurd z (by rw [s.e12, hf]; exact hw)
        subst e
        replace s := s.tr sm
        refine T_iconst (q := 57) rfl rfl rfl ?_
        refine T_icmp_ne (q := 60) (tgt := 73) rfl rfl rfl (by decide) (by omega) (by omega) (fun h57 => ?_) (fun h57 => ?_)
        · omega
        · refine T_aload_n (q := 61) (i := 0) rfl rfl rfl rfl rfl ?_
          refine T_L1L (q := 64) (b2 := 0) (C := C_L_print) rfl rfl rfl rfl rfl rfl ⟨_, rfl, ⟨rfl, s.1⟩⟩ rfl rfl rfl rfl (fun x M' hc => ?_)
          replace hc := hc _ rfl
          obtain ⟨e, sm⟩ := hc
          rw [s.e12, hf] at e
          subst e
          replace s := s.tr sm
          refine T_lload_n (q := 65) (i := 3) rfl rfl rfl rfl rfl ?_
          refine T_lcmpS (q := 66) rfl rfl rfl ?_
          refine T_if_ne (q := 69) (tgt := 73) rfl rfl rfl (by decide) (by omega) (fun h66 => ?_) (fun h66 => ?_)
          · omega
          · refine T_iconst (q := 70) rfl rfl rfl ?_
            refine T_goto (q := 73) (tgt := 74) rfl rfl rfl (by decide) ?_
            refine T_ret rfl rfl (Or.inr ⟨rfl, (by first | exact Or.inl rfl | exact Or.inr rfl | omega)⟩) ?_
            exact ⟨rfl, s.1, by rw [s.e12]⟩
  unfold wtT at hw
  have st : 0 ≤ t → t < f 7 → 0 ≤ f (90 + 9 * t) ∧ f (90 + 9 * t) ≤ 3 := fun a b => (O.1.2.2.2.2.2.2.1 t a b).1
  refine T_iload_n (q := 1) (i := 1) rfl rfl rfl rfl rfl ?_
  refine T_aload_n (q := 2) (i := 0) rfl rfl rfl rfl rfl ?_
  refine T_bipush (q := 4) rfl rfl rfl (by decide) ?_
  refine O_count (q := 7) s rfl rfl rfl rfl (by decide) (by rewrite [hf]; exact cnV_7 _ _) rfl (fun M' s => ?_)
  refine T_icmp_ge (q := 10) (tgt := 24) rfl rfl rfl (by decide) (by omega) (by omega) (fun h7 => ?_) (fun h7 => ?_)
  · exact J26 _ s
  · refine T_aload_n (q := 11) (i := 0) rfl rfl rfl rfl rfl ?_
    refine T_iload_n (q := 12) (i := 1) rfl rfl rfl rfl rfl ?_
    refine T_bipush (q := 14) rfl rfl rfl (by decide) ?_
    refine O_trunk (q := 17) s rfl rfl rfl rfl ⟨by rw [hf]; exact ⟨by omega, by omega⟩, by omega, by omega⟩ (by rewrite [hf]; exact trV_7 _ _) rfl (fun M' s => ?_)
    have st1 := st (by omega) (by omega)
    refine T_if_ne (q := 20) (tgt := 24) rfl rfl rfl (by decide) (by omega) (fun h17 => ?_) (fun h17 => ?_)
    · exact J26 _ s
    · exfalso; omega
set_option maxRecDepth 100000 in
set_option maxHeartbeats 4000000 in
theorem goes_T (L : Nat) (scr : Int → Int) (hL : L < 2147483648) (t : Int) (M : Mem) (g : GI M) (O : Ok2 (M 12)) (ht : 0 ≤ t ∧ t < 12) (hw0 : wtT (M 12) t) : Run2 sx_L_goes L (xcF scr) false 1 (fun x M' => x = 1 ∧ GI M' ∧ M' 12 = M 12) 0 0 [wR 3, wI t, none, none, none, none, none, none] [] M := by
  obtain ⟨f, hf⟩ : ∃ f, M 12 = f := ⟨_, rfl⟩
  rw [hf] at O
  have hw := hw0
  rw [hf] at hw
  have hw2 := hw
  unfold wtT at hw2
  have i7 := O.1.i7
  have hs4 := g.2.2.1
  have s := Sme.rf g
  have hT : hasT f t := hw2.1
  obtain ⟨-, c1, -⟩ := O.1.1.2.2.2 t hw2.1.1 (by omega)
  have d9 := dig_bd (k := 3) c1.1
  obtain ⟨OB, b10, b90, -⟩ := sbk_Ok O hw
  have gn := unt_gone (t := t) (f := sbk f t) (by rw [b90]; omega)
  obtain ⟨gU, gF⟩ : Hd (unt t 201 0 (sbk f t) = 0) ∧ Hd (ftV t (sbk f t) = 3) := ⟨gn.1, gn.2.trans b90⟩
  have hTb : hasT (sbk f t) t := by
    have e7 : sbk f t 7 = f 7 := by
      obtain ⟨d, p, q, hq⟩ := ((O.1.2.2.2.2.2.2.1 t hw2.1.1 hw2.1.2).2.2 hw2.2).2
      obtain ⟨e1, e2⟩ := O.1.at q hq
      have e3 := e1 d q.1 q.2.1
      rw [if_pos rfl] at e3
      unfold sbk
      rw [e2, e3]
      have m16 := (O.1.le q.1 q.2.1).2
      have q1 := q.1
      have q2 := q.2.1
      exact sbk_o ⟨q.1, q.2.1⟩ q.2.2.1 m16 (by omega) (by omega) (by omega) (by omega)
    show 0 ≤ t ∧ t < sbk f t 7
    rw [e7]
    exact hw2.1
  clear gn
  have s0 := s
  refine T_iload_n (q := 1) (i := 1) rfl rfl rfl rfl rfl ?_
  refine T_aload_n (q := 2) (i := 0) rfl rfl rfl rfl rfl ?_
  refine T_bipush (q := 4) rfl rfl rfl (by decide) ?_
  refine O_count (q := 7) s rfl rfl rfl rfl (by decide) (by rewrite [hf]; exact cnV_7 _ _) rfl (fun M' s => ?_)
  refine T_icmp_ge (q := 10) (tgt := 24) rfl rfl rfl (by decide) (by omega) (by omega) (fun h7 => ?_) (fun h7 => ?_)
  · omega
  · refine T_aload_n (q := 11) (i := 0) rfl rfl rfl rfl rfl ?_
    refine T_iload_n (q := 12) (i := 1) rfl rfl rfl rfl rfl ?_
    refine T_bipush (q := 14) rfl rfl rfl (by decide) ?_
    refine O_trunk (q := 17) s rfl rfl rfl rfl ⟨by rw [hf]; exact hT, by omega, by omega⟩ (by rewrite [hf]; exact trV_7 _ _) rfl (fun M' s => ?_)
    refine T_if_ne (q := 20) (tgt := 24) rfl rfl rfl (by decide) (by omega) (fun h17 => ?_) (fun h17 => ?_)
    · omega
    · refine T_iconst (q := 21) rfl rfl rfl ?_
      refine T_goto (q := 24) (tgt := 25) rfl rfl rfl (by decide) ?_
      refine T_istore_n (q := 26) (i := 2) rfl rfl rfl rfl rfl ?_
      refine T_aload_n (q := 27) (i := 0) rfl rfl rfl rfl rfl ?_
      refine T_L1L (q := 30) (b2 := 0) (C := C_L_print) rfl rfl rfl rfl rfl rfl ⟨_, rfl, ⟨rfl, s.1⟩⟩ rfl rfl rfl rfl (fun x M' hc => ?_)
      replace hc := hc _ rfl
      obtain ⟨e, sm⟩ := hc
      rw [s.e12, hf] at e
      subst e
      replace s := s.tr sm
      refine T_lstore_n (q := 31) (i := 3) rfl rfl rfl rfl rfl rfl ?_
      refine T_aload_n (q := 32) (i := 0) rfl rfl rfl rfl rfl ?_
      refine T_iload_n (q := 33) (i := 1) rfl rfl rfl rfl rfl ?_
      refine T_iconst (q := 34) rfl rfl rfl ?_
      refine O_trunk (q := 37) s rfl rfl rfl rfl ⟨by rw [hf]; exact hT, by omega, by omega⟩ (by rewrite [hf]; exact trV_5 _ _) rfl (fun M' s => ?_)
      refine T_istore (q := 39) rfl rfl rfl rfl ?_
      refine T_aload_n (q := 40) (i := 0) rfl rfl rfl rfl rfl ?_
      refine T_bipush (q := 42) rfl rfl rfl (by decide) ?_
      refine O_count (q := 45) s rfl rfl rfl rfl (by decide) (by rewrite [hf]; exact cnV_11 _ _) rfl (fun M' s => ?_)
      refine T_istore (q := 47) rfl rfl rfl rfl ?_
      refine T_iload_n (q := 48) (i := 2) rfl rfl rfl rfl rfl ?_
      refine T_if_ne (q := 51) (tgt := 75) rfl rfl rfl (by decide) (by omega) (fun h48 => ?_) (fun h48 => ?_)
      · refine T_aload_n (q := 76) (i := 0) rfl rfl rfl rfl rfl ?_
        refine T_iload_n (q := 77) (i := 1) rfl rfl rfl rfl rfl ?_
        refine T_iconst (q := 78) rfl rfl rfl ?_
        refine T_iconst (q := 79) rfl rfl rfl ?_
        refine T_aload_n (q := 80) (i := 0) rfl rfl rfl rfl rfl ?_
        refine T_iload_n (q := 81) (i := 1) rfl rfl rfl rfl rfl ?_
        refine T_iconst (q := 82) rfl rfl rfl ?_
        refine T_iconst (q := 83) rfl rfl rfl ?_
        refine O_pieces (q := 86) s rfl rfl rfl rfl ⟨by rw [hf]; exact hT, by omega, by omega⟩ (by rewrite [hf]; exact pcV_0 _ _ _) rfl (fun M' s => ?_)
        refine T_C4 (q := 89) (C := D_mend) rfl rfl rfl rfl rfl ⟨_, _, _, _, rfl, ⟨s.1, by omega, Or.inl rfl, by omega, by omega⟩⟩ rfl (fun x M' hc => ?_)
        replace hc := hc _ _ _ _ rfl
        rcases hc with ⟨z, -⟩ | ⟨-, e, cd⟩
        · exact absurd (by rw [s.e12, hf]; exact hw) z
        rw [s.e12, hf, mnd_id] at e cd
        subst e
        have hl := cd.hl (by rw [s.e11]; omega)
        rw [s.e12, hf] at hl
        have hf2 := cd.e12
        have hs5 := cd.1.2.2.1
        replace s := Sme.rf cd.1
        refine T_aload_n (q := 90) (i := 0) rfl rfl rfl rfl rfl ?_
        refine T_iload_n (q := 91) (i := 1) rfl rfl rfl rfl rfl ?_
        refine T_iconst (q := 92) rfl rfl rfl ?_
        refine O_trunk (q := 95) s rfl rfl rfl rfl ⟨by rw [hf2]; exact hT, by omega, by omega⟩ (by rewrite [hf2]; exact trV_3 _ _) rfl (fun M' s => ?_)
        refine T_neS (q := 98) (tgt := 158) rfl rfl rfl (by decide) ?_
        refine T_aload_n (q := 99) (i := 0) rfl rfl rfl rfl rfl ?_
        refine T_L1L (q := 102) (b2 := 0) (C := C_L_print) rfl rfl rfl rfl rfl rfl ⟨_, rfl, ⟨rfl, s.1⟩⟩ rfl rfl rfl rfl (fun x M' hc => ?_)
        replace hc := hc _ rfl
        obtain ⟨e, sm⟩ := hc
        rw [s.e12, hf2] at e
        subst e
        replace s := s.tr sm
        refine T_lload_n (q := 103) (i := 3) rfl rfl rfl rfl rfl ?_
        refine T_lcmpS (q := 104) rfl rfl rfl ?_
        refine T_if_ne (q := 107) (tgt := 158) rfl rfl rfl (by decide) (by omega) (fun h104 => ?_) (fun h104 => ?_)
        · omega
        · refine T_aload_n (q := 108) (i := 0) rfl rfl rfl rfl rfl ?_
          refine T_iload_n (q := 109) (i := 1) rfl rfl rfl rfl rfl ?_
          refine T_C1 (q := 112) (C := D_sendBack) rfl rfl rfl rfl rfl ⟨_, rfl, ⟨s.1, by omega⟩⟩ rfl (fun x M' hc => ?_)
          replace hc := hc _ rfl
          rcases hc with ⟨z, -⟩ | ⟨-, e, cd2⟩
          · exact absurd (by rw [s.e12, hf2]; exact hw) z
          rw [s.e12, hf2] at e
          subst e
          have hf3 := cd2.e12
          rw [s.e12, hf2] at hf3
          have hl2 := cd2.hl (by rw [s.e11]; omega)
          rw [s.e12, hf2] at hl2
          have s1 := s
          replace s := Sme.rf cd2.1
          refine T_iload (q := 114) rfl rfl rfl rfl ?_
          refine T_neS (q := 117) (tgt := 158) rfl rfl rfl (by decide) ?_
          refine T_aload_n (q := 118) (i := 0) rfl rfl rfl rfl rfl ?_
          refine T_bipush (q := 120) rfl rfl rfl (by decide) ?_
          refine O_count (q := 123) s rfl rfl rfl rfl (by decide) (by rewrite [hf3]; exact cnV_11s _ b10) rfl (fun M' s => ?_)
          refine T_iload (q := 125) rfl rfl rfl rfl ?_
          refine T_iconst (q := 126) rfl rfl rfl ?_
          refine T_iadd (q := 127) rfl rfl rfl ?_
          refine T_neS (q := 130) (tgt := 158) rfl rfl rfl (by decide) ?_
          refine T_aload_n (q := 131) (i := 0) rfl rfl rfl rfl rfl ?_
          refine T_iload_n (q := 132) (i := 1) rfl rfl rfl rfl rfl ?_
          refine O_fate (q := 135) s rfl rfl rfl rfl ⟨by rw [hf3]; exact hTb, by omega⟩ (by rewrite [hf3]; exact gF) rfl (fun M' s => ?_)
          refine T_iconst (q := 136) rfl rfl rfl ?_
          refine T_neS (q := 139) (tgt := 158) rfl rfl rfl (by decide) ?_
          refine T_aload_n (q := 140) (i := 0) rfl rfl rfl rfl rfl ?_
          refine T_iload_n (q := 141) (i := 1) rfl rfl rfl rfl rfl ?_
          refine O_untilGone (q := 144) s rfl rfl rfl rfl ⟨by rw [hf3]; exact hTb, by omega⟩ (by rewrite [hf3]; exact gU) rfl (fun M' s => ?_)
          refine T_if_ne (q := 147) (tgt := 158) rfl rfl rfl (by decide) (by omega) (fun h144 => ?_) (fun h144 => ?_)
          · omega
          · refine T_aload_n (q := 148) (i := 0) rfl rfl rfl rfl rfl ?_
            refine T_L1I (q := 151) (b2 := 1) (C := C_L_trunks) rfl rfl rfl rfl rfl rfl ⟨_, rfl, ⟨rfl, s.1, by rw [s.e12, hf3]; exact OB⟩⟩ rfl rfl rfl rfl (fun x M' hc => ?_)
            replace hc := hc _ rfl
            obtain ⟨rfl, sm⟩ := hc
            replace s := s.tr sm
            refine T_if_eq (q := 154) (tgt := 158) rfl rfl rfl (by decide) (by omega) (fun h151 => ?_) (fun h151 => ?_)
            · omega
            · refine T_iconst (q := 155) rfl rfl rfl ?_
              refine T_goto (q := 158) (tgt := 159) rfl rfl rfl (by decide) ?_
              refine T_istore (q := 161) rfl rfl rfl rfl ?_
              refine T_iload (q := 163) rfl rfl rfl rfl ?_
              refine T_if_eq (q := 166) (tgt := 193) rfl rfl rfl (by decide) (by omega) (fun h163 => ?_) (fun h163 => ?_)
              · omega
              · refine T_aload_n (q := 167) (i := 0) rfl rfl rfl rfl rfl ?_
                refine T_C0 (q := 170) (C := D_undo) rfl rfl rfl rfl rfl ⟨rfl, ⟨s.1, by rw [s.e11]; omega⟩⟩ rfl (fun x M' hc => ?_)
                replace hc := hc rfl
                obtain ⟨e, un⟩ := hc
                rw [s.e11] at e
                have h4 := cd2.1.2.2.1
                have u2 := und2 hl.1 hl.2 s1 cd2 s un
                have hP := un.e12 s hl2.2
                replace s := Sme.rf un.1
                have h5 := s.1.2.2.1
                refine T_if_lt (q := 173) (tgt := 193) rfl rfl rfl (by decide) (by omega) (fun h170 => ?_) (fun h170 => ?_)
                · omega
                · refine T_aload_n (q := 174) (i := 0) rfl rfl rfl rfl rfl ?_
                  refine T_C0 (q := 177) (C := D_undo) rfl rfl rfl rfl rfl ⟨rfl, ⟨s.1, by omega⟩⟩ rfl (fun x M' hc => ?_)
                  replace hc := hc rfl
                  obtain ⟨e2, un2⟩ := hc
                  have hP2 := un2.e12 s u2.2
                  replace s := Sme.rf un2.1
                  refine T_if_lt (q := 180) (tgt := 193) rfl rfl rfl (by decide) (by omega) (fun h177 => ?_) (fun h177 => ?_)
                  · omega
                  · refine T_aload_n (q := 181) (i := 0) rfl rfl rfl rfl rfl ?_
                    refine T_L1L (q := 184) (b2 := 1) (C := C_L_print) rfl rfl rfl rfl rfl rfl ⟨_, rfl, ⟨rfl, s.1⟩⟩ rfl rfl rfl rfl (fun x M' hc => ?_)
                    replace hc := hc _ rfl
                    obtain ⟨e, sm⟩ := hc
                    rw [s.e12, hP2] at e
                    subst e
                    replace s := s.tr sm
                    refine T_lload_n (q := 185) (i := 3) rfl rfl rfl rfl rfl ?_
                    refine T_lcmpS (q := 186) rfl rfl rfl ?_
                    refine T_if_ne (q := 189) (tgt := 193) rfl rfl rfl (by decide) (by omega) (fun h186 => ?_) (fun h186 => ?_)
                    · omega
                    · refine T_iconst (q := 190) rfl rfl rfl ?_
                      refine T_goto (q := 193) (tgt := 194) rfl rfl rfl (by decide) ?_
                      refine T_ret rfl rfl (Or.inr ⟨rfl, (by first | exact Or.inl rfl | exact Or.inr rfl | omega)⟩) ?_
                      exact ⟨rfl, s.1, by rw [s.e12, hP2, hf]⟩
      · omega
set_option maxRecDepth 100000 in
set_option maxHeartbeats 2000000 in
theorem ok_L_goes (L : Nat) (scr : Int → Int) (hL : L < 2147483648) (o : Nat) (t : Int) (M : Mem) (hp : o = 3 ∧ GI M ∧ Ok2 (M 12) ∧ 0 ≤ t ∧ t < 12) : Run2 sx_L_goes L (xcF scr) false 1 (fun x M' => x = 1 ∧ GI M' ∧ M' 12 = M 12) 0 0 [wR o, wI t, none, none, none, none, none, none] [] M := by
  obtain ⟨rfl, g, O, ht⟩ := hp
  by_cases hw : wtT (M 12) t
  · exact goes_T L scr hL t M g O ht hw
  · exact goes_N L scr hL t M g O ht hw
