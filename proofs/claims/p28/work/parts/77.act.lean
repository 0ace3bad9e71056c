/-! THE LAW'S act -/
def SmP (M M' : Mem) : Prop := GI M' ∧ M' 12 = M 12 ∧ M' 11 1 = M 11 1
def ChP (M M' : Mem) (g : Int → Int) : Prop := GI M' ∧ M' 12 = g ∧ M' 11 1 = (if M 11 1 = 4 then 4 else M 11 1 + 1) ∧ 1 ≤ M' 11 1 ∧ hs M' (M' 11 1) = M 12
/-- how an act ends: an error, and nothing else is another; or a change -/
def Pst (M M' : Mem) (x : Int) : Prop := inr x ∧ ((x < 0 ∧ SmP M M') ∨ (0 ≤ x ∧ ∃ g, ChP M M' g ∧ Ok2 g ∧ g 6 ≤ M 12 6 + 30))
theorem Pst_s {M M' : Mem} {x : Int} (h : inr x) (hx : x < 0) (s : Sme M M') : Pst M M' x := ⟨h, Or.inl ⟨hx, s.1, s.e12, by rw [s.e11]⟩⟩
theorem Pst_c {M M' : Mem} {x : Int} {g : Int → Int} (gM : GI M) (h : inr x) (hx : 0 ≤ x) (c : Chd M M' g) (O : Ok2 g) (h6 : g 6 ≤ M 12 6 + 30) : Pst M M' x := ⟨h, Or.inr ⟨hx, g, ⟨c.1, c.e12, c.sz, (c.hl gM.2.2.1.1).1, (c.hl gM.2.2.1.1).2⟩, O, h6⟩⟩
theorem rdV_cs {f c d : Int → Int} {n : Int} (h : Cs c d n) : rdV f c n = rdV f d n := by
  unfold rdV
  rw [flt_cs h]
theorem read_P {M M1 M' : Mem} {S : PS} {x : Int} (O : Ok2 (M 12)) (p : PadS M M1) (r : PdR S M1) (hx : x = rdV (M1 12) (M1 14) (M1 11 4)) (h : (x < 0 ∧ Sme M1 M') ∨ (0 ≤ x ∧ ¬ (M1 12 27 + M1 12 31 + M1 12 35 = 16 ∨ M1 12 7 = 64) ∧ ∃ ct up lo tr, Chd M1 M' (adm (M1 12) ct up lo tr))) : x = rdV (M 12) S.2 S.1 ∧ Pst M M' x := by
  have i7 := O.1.i7
  have g1 := p.1
  have ex : x = rdV (M 12) S.2 S.1 := by
    rw [hx, p.2.1, r.1]
    exact rdV_cs (fun i a b => r.2 i a b)
  have hr : -4 ≤ x ∧ x ≤ 64 := by
    rw [ex]
    unfold rdV
    split
    · omega
    · split <;> omega
  refine ⟨ex, ⟨by omega, by omega⟩, ?_⟩
  rcases h with ⟨a, s⟩ | ⟨a, b, ct, up, lo, tr, c⟩
  · exact Or.inl ⟨a, s.1, by rw [s.e12, p.2.1], by rw [s.e11, p.2.2.1]⟩
  · have hl := c.hl g1.2.2.1.1
    have hI := c.1.2.1.1
    rw [c.e12] at hI
    rw [p.2.1] at b hl hI
    obtain ⟨O2, e6⟩ := adm_Ok (c := ct) (up := up) (lo := lo) (tr := tr) O b hI
    refine Or.inr ⟨a, adm (M 12) ct up lo tr, ⟨c.1, by rw [c.e12, p.2.1], by rw [c.sz, p.2.2.1], hl.1, hl.2⟩, O2, by omega⟩
noncomputable def actV (a c : Int) (f : Int → Int) : Int :=
  if lowF a 13 ≤ 4 then rdV f (tyP (xishr a 4) c 3).2 (tyP (xishr a 4) c 3).1
  else if lowF a 13 = 5 then f (lowF (xishr a 4) 6)
  else if lowF a 13 = 6 then (if lowF c 2 = 0 then f (15 + lowF (xishr c 1) 6) else f (21 + lowF (xishr c 1) 5))
  else if lowF a 13 = 7 then f (26 + 4 * lowF c 3)
  else if lowF a 13 = 8 then (if (0 ≤ lowF (xishr a 4) 12 ∧ lowF (xishr a 4) 12 < f 7) ∧ f (90 + 9 * lowF (xishr a 4) 12) = 0 then dbt (mnd f (lowF (xishr a 4) 12) (lowF c 2) (lowF (xishr c 1) 6) (lowF (xishr c 4) 10)) (lowF (xishr a 4) 12) else -1)
  else if lowF a 13 = 9 then (if lowF c 3 = 0 then (if (0 ≤ lowF (xishr a 4) 12 ∧ lowF (xishr a 4) 12 < f 7) ∧ f (90 + 9 * lowF (xishr a 4) 12) = 0 then f (91 + 9 * lowF (xishr a 4) 12) else -1) else psn (1 : Int).toNat f)
  else psn (1 + lowF c (if lowF (xishr c 8) 6 = 0 then 30 else 3)).toNat f
abbrev C_L_act : Ct2 := (3, false, 0, fun as M => ∃ (o : Nat) (a : Int) (c : Int), as = [wR o, wI a, wI c] ∧ (o = 3 ∧ GI M ∧ Ok2 (M 12) ∧ M 12 6 + 30 ≤ 9999), fun as M x M' => ∀ (o : Nat) (a : Int) (c : Int), as = [wR o, wI a, wI c] → (x = actV a c (M 12) ∧ Pst M M' x))
def sx_L_act : Sx2 := (tb_L_act, kLL, kIL, [(36, D_read), (39, D_set), (42, D_weight), (45, D_trust), (48, D_hands), (51, D_mend), (55, D_sendBack), (59, D_turn)], [(16, C_L_low), (32, C_L_types)], 1)
theorem turn_P {M M' : Mem} {n : Int} (gM : GI M) (O : Ok2 (M 12)) (hn : 1 ≤ n ∧ n ≤ 30) (c : Chd M M' (tnN n.toNat (M 12))) : Pst M M' (psn n.toNat (M 12)) := by
  have p := psn_nn n.toNat O
  have q := psn_bd n.toNat O.1
  have k := (tnN_Inv n.toNat (M 12) O.1).2.2
  exact Pst_c gM ⟨by omega, by omega⟩ p c (tnN_Ok n.toNat _ O).1 (by omega)
set_option maxRecDepth 100000 in
set_option maxHeartbeats 2000000 in
theorem ok_L_act (L : Nat) (scr : Int → Int) (hL : L < 2147483648) (o : Nat) (a : Int) (c : Int) (M : Mem) (hp : o = 3 ∧ GI M ∧ Ok2 (M 12) ∧ M 12 6 + 30 ≤ 9999) : Run2 sx_L_act L (xcF scr) false 0 (fun x M' => x = actV a c (M 12) ∧ Pst M M' x) 0 0 [wR o, wI a, wI c, none] [] M := by
  obtain ⟨rfl, g, O, h6⟩ := hp
  have I := O.1
  have i7 := I.i7
  obtain ⟨⟨q0, q1, q2, q3, q4, q5⟩, qw, qt, -⟩ := id I.1
  obtain ⟨kv, hk⟩ : ∃ kv, lowF a 13 = kv := ⟨_, rfl⟩
  have kb := lowF_bd a (n := 13) (by omega) (by omega)
  rw [hk] at kb
  have x6 := lowF_bd (xishr a 4) (n := 6) (by omega) (by omega)
  have x12 := lowF_bd (xishr a 4) (n := 12) (by omega) (by omega)
  have c2 := lowF_bd c (n := 2) (by omega) (by omega)
  have c3 := lowF_bd c (n := 3) (by omega) (by omega)
  have c4 := lowF_bd c (n := 4) (by omega) (by omega)
  have c21 := lowF_bd c (n := 21) (by omega) (by omega)
  have c30 := lowF_bd c (n := 30) (by omega) (by omega)
  have c40 := lowF_bd c (n := 40) (by omega) (by omega)
  have y5 := lowF_bd (xishr c 1) (n := 5) (by omega) (by omega)
  have y6 := lowF_bd (xishr c 1) (n := 6) (by omega) (by omega)
  have y9 := lowF_bd (xishr c 4) (n := 9) (by omega) (by omega)
  have y10 := lowF_bd (xishr c 4) (n := 10) (by omega) (by omega)
  have y4 := lowF_bd (xishr c 2) (n := 4) (by omega) (by omega)
  have y8 := lowF_bd (xishr c 8) (n := 6) (by omega) (by omega)
  have tb := tyP_bd (xishr a 4) c 3
  rcases (show kv = 0 ∨ kv = 1 ∨ kv = 2 ∨ kv = 3 ∨ kv = 4 ∨ kv = 5 ∨ kv = 6 ∨ kv = 7 ∨ kv = 8 ∨ kv = 9 ∨ 10 ≤ kv by omega) with rfl | rfl | rfl | rfl | rfl | rfl | rfl | rfl | rfl | rfl | h10
  · refine T_iload_n (q := 1) (i := 1) rfl rfl rfl rfl rfl ?_
    refine T_bipush (q := 3) rfl rfl rfl (by decide) ?_
    refine T_L2I (q := 6) (b2 := 0) (C := C_L_low) rfl rfl rfl rfl rfl rfl ⟨_, _, rfl, ⟨by omega, by omega⟩⟩ rfl rfl rfl rfl (fun x M' hc => ?_)
    replace hc := hc _ _ rfl
    obtain ⟨e, rfl⟩ := hc
    rw [hk] at e
    subst e
    refine T_tblIn (q := 60) (off := 54) (tgt := 60) rfl rfl rfl (by omega) (by omega) rfl (by decide) ?_
    refine T_aload_n (q := 61) (i := 0) rfl rfl rfl rfl rfl ?_
    refine T_iload_n (q := 62) (i := 1) rfl rfl rfl rfl rfl ?_
    refine T_iconst (q := 63) rfl rfl rfl ?_
    refine T_ishr (q := 64) rfl rfl rfl ?_
    refine T_iload_n (q := 65) (i := 2) rfl rfl rfl rfl rfl ?_
    refine T_L3I (q := 68) (b2 := 0) (C := C_L_types) rfl rfl rfl rfl rfl rfl ⟨_, _, _, rfl, ⟨rfl, g⟩⟩ rfl rfl rfl rfl (fun x M' hc => ?_)
    replace hc := hc _ _ _ rfl
    obtain ⟨e, p, r⟩ := hc
    subst e
    refine T_if_ge (q := 71) (tgt := 75) rfl rfl rfl (by decide) (by omega) (fun h68 => ?_) (fun h68 => ?_)
    · refine T_aload_n (q := 76) (i := 0) rfl rfl rfl rfl rfl ?_
      refine T_C0 (q := 79) (C := D_read) rfl rfl rfl rfl rfl ⟨rfl, p.1⟩ rfl (fun x M' hc => ?_)
      replace hc := hc rfl
      obtain ⟨e, h⟩ := hc
      have P := read_P O p r e h
      refine T_ret rfl rfl (Or.inl rfl) ?_
      refine ⟨?_, P.2⟩
      unfold actV
      rw [if_pos (by omega)]
      exact P.1
    · omega
  · refine T_iload_n (q := 1) (i := 1) rfl rfl rfl rfl rfl ?_
    refine T_bipush (q := 3) rfl rfl rfl (by decide) ?_
    refine T_L2I (q := 6) (b2 := 0) (C := C_L_low) rfl rfl rfl rfl rfl rfl ⟨_, _, rfl, ⟨by omega, by omega⟩⟩ rfl rfl rfl rfl (fun x M' hc => ?_)
    replace hc := hc _ _ rfl
    obtain ⟨e, rfl⟩ := hc
    rw [hk] at e
    subst e
    refine T_tblIn (q := 60) (off := 54) (tgt := 60) rfl rfl rfl (by omega) (by omega) rfl (by decide) ?_
    refine T_aload_n (q := 61) (i := 0) rfl rfl rfl rfl rfl ?_
    refine T_iload_n (q := 62) (i := 1) rfl rfl rfl rfl rfl ?_
    refine T_iconst (q := 63) rfl rfl rfl ?_
    refine T_ishr (q := 64) rfl rfl rfl ?_
    refine T_iload_n (q := 65) (i := 2) rfl rfl rfl rfl rfl ?_
    refine T_L3I (q := 68) (b2 := 0) (C := C_L_types) rfl rfl rfl rfl rfl rfl ⟨_, _, _, rfl, ⟨rfl, g⟩⟩ rfl rfl rfl rfl (fun x M' hc => ?_)
    replace hc := hc _ _ _ rfl
    obtain ⟨e, p, r⟩ := hc
    subst e
    refine T_if_ge (q := 71) (tgt := 75) rfl rfl rfl (by decide) (by omega) (fun h68 => ?_) (fun h68 => ?_)
    · refine T_aload_n (q := 76) (i := 0) rfl rfl rfl rfl rfl ?_
      refine T_C0 (q := 79) (C := D_read) rfl rfl rfl rfl rfl ⟨rfl, p.1⟩ rfl (fun x M' hc => ?_)
      replace hc := hc rfl
      obtain ⟨e, h⟩ := hc
      have P := read_P O p r e h
      refine T_ret rfl rfl (Or.inl rfl) ?_
      refine ⟨?_, P.2⟩
      unfold actV
      rw [if_pos (by omega)]
      exact P.1
    · omega
  · refine T_iload_n (q := 1) (i := 1) rfl rfl rfl rfl rfl ?_
    refine T_bipush (q := 3) rfl rfl rfl (by decide) ?_
    refine T_L2I (q := 6) (b2 := 0) (C := C_L_low) rfl rfl rfl rfl rfl rfl ⟨_, _, rfl, ⟨by omega, by omega⟩⟩ rfl rfl rfl rfl (fun x M' hc => ?_)
    replace hc := hc _ _ rfl
    obtain ⟨e, rfl⟩ := hc
    rw [hk] at e
    subst e
    refine T_tblIn (q := 60) (off := 54) (tgt := 60) rfl rfl rfl (by omega) (by omega) rfl (by decide) ?_
    refine T_aload_n (q := 61) (i := 0) rfl rfl rfl rfl rfl ?_
    refine T_iload_n (q := 62) (i := 1) rfl rfl rfl rfl rfl ?_
    refine T_iconst (q := 63) rfl rfl rfl ?_
    refine T_ishr (q := 64) rfl rfl rfl ?_
    refine T_iload_n (q := 65) (i := 2) rfl rfl rfl rfl rfl ?_
    refine T_L3I (q := 68) (b2 := 0) (C := C_L_types) rfl rfl rfl rfl rfl rfl ⟨_, _, _, rfl, ⟨rfl, g⟩⟩ rfl rfl rfl rfl (fun x M' hc => ?_)
    replace hc := hc _ _ _ rfl
    obtain ⟨e, p, r⟩ := hc
    subst e
    refine T_if_ge (q := 71) (tgt := 75) rfl rfl rfl (by decide) (by omega) (fun h68 => ?_) (fun h68 => ?_)
    · refine T_aload_n (q := 76) (i := 0) rfl rfl rfl rfl rfl ?_
      refine T_C0 (q := 79) (C := D_read) rfl rfl rfl rfl rfl ⟨rfl, p.1⟩ rfl (fun x M' hc => ?_)
      replace hc := hc rfl
      obtain ⟨e, h⟩ := hc
      have P := read_P O p r e h
      refine T_ret rfl rfl (Or.inl rfl) ?_
      refine ⟨?_, P.2⟩
      unfold actV
      rw [if_pos (by omega)]
      exact P.1
    · omega
  · refine T_iload_n (q := 1) (i := 1) rfl rfl rfl rfl rfl ?_
    refine T_bipush (q := 3) rfl rfl rfl (by decide) ?_
    refine T_L2I (q := 6) (b2 := 0) (C := C_L_low) rfl rfl rfl rfl rfl rfl ⟨_, _, rfl, ⟨by omega, by omega⟩⟩ rfl rfl rfl rfl (fun x M' hc => ?_)
    replace hc := hc _ _ rfl
    obtain ⟨e, rfl⟩ := hc
    rw [hk] at e
    subst e
    refine T_tblIn (q := 60) (off := 54) (tgt := 60) rfl rfl rfl (by omega) (by omega) rfl (by decide) ?_
    refine T_aload_n (q := 61) (i := 0) rfl rfl rfl rfl rfl ?_
    refine T_iload_n (q := 62) (i := 1) rfl rfl rfl rfl rfl ?_
    refine T_iconst (q := 63) rfl rfl rfl ?_
    refine T_ishr (q := 64) rfl rfl rfl ?_
    refine T_iload_n (q := 65) (i := 2) rfl rfl rfl rfl rfl ?_
    refine T_L3I (q := 68) (b2 := 0) (C := C_L_types) rfl rfl rfl rfl rfl rfl ⟨_, _, _, rfl, ⟨rfl, g⟩⟩ rfl rfl rfl rfl (fun x M' hc => ?_)
    replace hc := hc _ _ _ rfl
    obtain ⟨e, p, r⟩ := hc
    subst e
    refine T_if_ge (q := 71) (tgt := 75) rfl rfl rfl (by decide) (by omega) (fun h68 => ?_) (fun h68 => ?_)
    · refine T_aload_n (q := 76) (i := 0) rfl rfl rfl rfl rfl ?_
      refine T_C0 (q := 79) (C := D_read) rfl rfl rfl rfl rfl ⟨rfl, p.1⟩ rfl (fun x M' hc => ?_)
      replace hc := hc rfl
      obtain ⟨e, h⟩ := hc
      have P := read_P O p r e h
      refine T_ret rfl rfl (Or.inl rfl) ?_
      refine ⟨?_, P.2⟩
      unfold actV
      rw [if_pos (by omega)]
      exact P.1
    · omega
  · refine T_iload_n (q := 1) (i := 1) rfl rfl rfl rfl rfl ?_
    refine T_bipush (q := 3) rfl rfl rfl (by decide) ?_
    refine T_L2I (q := 6) (b2 := 0) (C := C_L_low) rfl rfl rfl rfl rfl rfl ⟨_, _, rfl, ⟨by omega, by omega⟩⟩ rfl rfl rfl rfl (fun x M' hc => ?_)
    replace hc := hc _ _ rfl
    obtain ⟨e, rfl⟩ := hc
    rw [hk] at e
    subst e
    refine T_tblIn (q := 60) (off := 54) (tgt := 60) rfl rfl rfl (by omega) (by omega) rfl (by decide) ?_
    refine T_aload_n (q := 61) (i := 0) rfl rfl rfl rfl rfl ?_
    refine T_iload_n (q := 62) (i := 1) rfl rfl rfl rfl rfl ?_
    refine T_iconst (q := 63) rfl rfl rfl ?_
    refine T_ishr (q := 64) rfl rfl rfl ?_
    refine T_iload_n (q := 65) (i := 2) rfl rfl rfl rfl rfl ?_
    refine T_L3I (q := 68) (b2 := 0) (C := C_L_types) rfl rfl rfl rfl rfl rfl ⟨_, _, _, rfl, ⟨rfl, g⟩⟩ rfl rfl rfl rfl (fun x M' hc => ?_)
    replace hc := hc _ _ _ rfl
    obtain ⟨e, p, r⟩ := hc
    subst e
    refine T_if_ge (q := 71) (tgt := 75) rfl rfl rfl (by decide) (by omega) (fun h68 => ?_) (fun h68 => ?_)
    · refine T_aload_n (q := 76) (i := 0) rfl rfl rfl rfl rfl ?_
      refine T_C0 (q := 79) (C := D_read) rfl rfl rfl rfl rfl ⟨rfl, p.1⟩ rfl (fun x M' hc => ?_)
      replace hc := hc rfl
      obtain ⟨e, h⟩ := hc
      have P := read_P O p r e h
      refine T_ret rfl rfl (Or.inl rfl) ?_
      refine ⟨?_, P.2⟩
      unfold actV
      rw [if_pos (by omega)]
      exact P.1
    · omega
  · have J130 : ∀ v, vS (lowF (xishr a 4) 6) v → Run2 sx_L_act L (xcF scr) false 0 (fun x M' => x = actV a c (M 12) ∧ Pst M M' x) 0 130 [wR 3, wI a, wI c, wI (lowF (xishr a 4) 6)] [wI v, wI (lowF (xishr a 4) 6), wR 3] M := by
      intro v hv
      refine T_C2 (q := 133) (C := D_set) rfl rfl rfl rfl rfl ⟨_, _, rfl, ⟨g, hv⟩⟩ rfl (fun x M' hc => ?_)
      replace hc := hc _ _ rfl
      obtain ⟨e, cd⟩ := hc
      subst e
      refine T_ret rfl rfl (Or.inl rfl) ?_
      have hx : 0 ≤ M 12 (lowF (xishr a 4) 6) ∧ M 12 (lowF (xishr a 4) 6) ≤ 200 := by
        rcases (show lowF (xishr a 4) 6 = 0 ∨ lowF (xishr a 4) 6 = 1 ∨ lowF (xishr a 4) 6 = 2 ∨ lowF (xishr a 4) 6 = 3 ∨ lowF (xishr a 4) 6 = 4 ∨ lowF (xishr a 4) 6 = 5 by omega) with z | z | z | z | z | z <;> rw [z] <;> omega
      refine ⟨?_, Pst_c g ⟨by omega, by omega⟩ hx.1 cd (us_Ok O (Or.inl ⟨x6.1, x6.2⟩) (Inv_set I hv)) (by rw [us_n (by omega)]; omega)⟩
      unfold actV
      rw [if_neg (by omega), if_pos (by omega)]
    refine T_iload_n (q := 1) (i := 1) rfl rfl rfl rfl rfl ?_
    refine T_bipush (q := 3) rfl rfl rfl (by decide) ?_
    refine T_L2I (q := 6) (b2 := 0) (C := C_L_low) rfl rfl rfl rfl rfl rfl ⟨_, _, rfl, ⟨by omega, by omega⟩⟩ rfl rfl rfl rfl (fun x M' hc => ?_)
    replace hc := hc _ _ rfl
    obtain ⟨e, rfl⟩ := hc
    rw [hk] at e
    subst e
    refine T_tblIn (q := 60) (off := 74) (tgt := 80) rfl rfl rfl (by omega) (by omega) rfl (by decide) ?_
    refine T_iload_n (q := 81) (i := 1) rfl rfl rfl rfl rfl ?_
    refine T_iconst (q := 82) rfl rfl rfl ?_
    refine T_ishr (q := 83) rfl rfl rfl ?_
    refine T_bipush (q := 85) rfl rfl rfl (by decide) ?_
    refine T_L2I (q := 88) (b2 := 0) (C := C_L_low) rfl rfl rfl rfl rfl rfl ⟨_, _, rfl, ⟨by omega, by omega⟩⟩ rfl rfl rfl rfl (fun x M' hc => ?_)
    replace hc := hc _ _ rfl
    obtain ⟨rfl, rfl⟩ := hc
    refine T_istore_n (q := 89) (i := 3) rfl rfl rfl rfl rfl ?_
    refine T_aload_n (q := 90) (i := 0) rfl rfl rfl rfl rfl ?_
    refine T_iload_n (q := 91) (i := 3) rfl rfl rfl rfl rfl ?_
    refine T_iload_n (q := 92) (i := 3) rfl rfl rfl rfl rfl ?_
    refine T_iconst (q := 93) rfl rfl rfl ?_
    refine T_icmp_ne (q := 96) (tgt := 106) rfl rfl rfl (by decide) (by omega) (by omega) (fun h93 => ?_) (fun h93 => ?_)
    · refine T_iload_n (q := 107) (i := 2) rfl rfl rfl rfl rfl ?_
      refine T_iload_n (q := 108) (i := 3) rfl rfl rfl rfl rfl ?_
      refine T_if_ne (q := 111) (tgt := 116) rfl rfl rfl (by decide) (by omega) (fun h108 => ?_) (fun h108 => ?_)
      · refine T_iload_n (q := 117) (i := 3) rfl rfl rfl rfl rfl ?_
        refine T_iconst (q := 118) rfl rfl rfl ?_
        refine T_icmp_ne (q := 121) (tgt := 125) rfl rfl rfl (by decide) (by omega) (by omega) (fun h118 => ?_) (fun h118 => ?_)
        · refine T_bipush (q := 127) rfl rfl rfl (by decide) ?_
          refine T_L2I (q := 130) (b2 := 0) (C := C_L_low) rfl rfl rfl rfl rfl rfl ⟨_, _, rfl, ⟨by omega, by omega⟩⟩ rfl rfl rfl rfl (fun x M' hc => ?_)
          replace hc := hc _ _ rfl
          obtain ⟨rfl, rfl⟩ := hc
          first
            | exact J130 _ (by unfold vS; omega)
            | exact J130 _ (by unfold vS; rw [show lowF (xishr a 4) 6 = 0 by omega]; omega)
        · refine T_iconst (q := 122) rfl rfl rfl ?_
          refine T_goto (q := 125) (tgt := 127) rfl rfl rfl (by decide) ?_
          refine T_L2I (q := 130) (b2 := 0) (C := C_L_low) rfl rfl rfl rfl rfl rfl ⟨_, _, rfl, ⟨by omega, by omega⟩⟩ rfl rfl rfl rfl (fun x M' hc => ?_)
          replace hc := hc _ _ rfl
          obtain ⟨rfl, rfl⟩ := hc
          first
            | exact J130 _ (by unfold vS; omega)
            | exact J130 _ (by unfold vS; rw [show lowF (xishr a 4) 6 = 0 by omega]; omega)
      · refine T_bipush (q := 113) rfl rfl rfl (by decide) ?_
        refine T_goto (q := 116) (tgt := 127) rfl rfl rfl (by decide) ?_
        refine T_L2I (q := 130) (b2 := 0) (C := C_L_low) rfl rfl rfl rfl rfl rfl ⟨_, _, rfl, ⟨by omega, by omega⟩⟩ rfl rfl rfl rfl (fun x M' hc => ?_)
        replace hc := hc _ _ rfl
        obtain ⟨rfl, rfl⟩ := hc
        first
          | exact J130 _ (by unfold vS; omega)
          | exact J130 _ (by unfold vS; rw [show lowF (xishr a 4) 6 = 0 by omega]; omega)
    · refine T_iconst (q := 97) rfl rfl rfl ?_
      refine T_iload_n (q := 98) (i := 2) rfl rfl rfl rfl rfl ?_
      refine T_iconst (q := 99) rfl rfl rfl ?_
      refine T_L2I (q := 102) (b2 := 0) (C := C_L_low) rfl rfl rfl rfl rfl rfl ⟨_, _, rfl, ⟨by omega, by omega⟩⟩ rfl rfl rfl rfl (fun x M' hc => ?_)
      replace hc := hc _ _ rfl
      obtain ⟨rfl, rfl⟩ := hc
      refine T_iadd (q := 103) rfl rfl rfl ?_
      refine T_goto (q := 106) (tgt := 130) rfl rfl rfl (by decide) ?_
      first
        | exact J130 _ (by unfold vS; omega)
        | exact J130 _ (by unfold vS; rw [show lowF (xishr a 4) 6 = 0 by omega]; omega)
  · refine T_iload_n (q := 1) (i := 1) rfl rfl rfl rfl rfl ?_
    refine T_bipush (q := 3) rfl rfl rfl (by decide) ?_
    refine T_L2I (q := 6) (b2 := 0) (C := C_L_low) rfl rfl rfl rfl rfl rfl ⟨_, _, rfl, ⟨by omega, by omega⟩⟩ rfl rfl rfl rfl (fun x M' hc => ?_)
    replace hc := hc _ _ rfl
    obtain ⟨e, rfl⟩ := hc
    rw [hk] at e
    subst e
    refine T_tblIn (q := 60) (off := 128) (tgt := 134) rfl rfl rfl (by omega) (by omega) rfl (by decide) ?_
    refine T_iload_n (q := 135) (i := 2) rfl rfl rfl rfl rfl ?_
    refine T_iconst (q := 136) rfl rfl rfl ?_
    refine T_L2I (q := 139) (b2 := 0) (C := C_L_low) rfl rfl rfl rfl rfl rfl ⟨_, _, rfl, ⟨by omega, by omega⟩⟩ rfl rfl rfl rfl (fun x M' hc => ?_)
    replace hc := hc _ _ rfl
    obtain ⟨rfl, rfl⟩ := hc
    refine T_if_ne (q := 142) (tgt := 167) rfl rfl rfl (by decide) (by omega) (fun h139 => ?_) (fun h139 => ?_)
    · refine T_aload_n (q := 168) (i := 0) rfl rfl rfl rfl rfl ?_
      refine T_iload_n (q := 169) (i := 2) rfl rfl rfl rfl rfl ?_
      refine T_iconst (q := 170) rfl rfl rfl ?_
      refine T_ishr (q := 171) rfl rfl rfl ?_
      refine T_iconst (q := 172) rfl rfl rfl ?_
      refine T_L2I (q := 175) (b2 := 0) (C := C_L_low) rfl rfl rfl rfl rfl rfl ⟨_, _, rfl, ⟨by omega, by omega⟩⟩ rfl rfl rfl rfl (fun x M' hc => ?_)
      replace hc := hc _ _ rfl
      obtain ⟨rfl, rfl⟩ := hc
      refine T_iload_n (q := 176) (i := 2) rfl rfl rfl rfl rfl ?_
      refine T_iconst (q := 177) rfl rfl rfl ?_
      refine T_ishr (q := 178) rfl rfl rfl ?_
      refine T_bipush (q := 180) rfl rfl rfl (by decide) ?_
      refine T_L2I (q := 183) (b2 := 0) (C := C_L_low) rfl rfl rfl rfl rfl rfl ⟨_, _, rfl, ⟨by omega, by omega⟩⟩ rfl rfl rfl rfl (fun x M' hc => ?_)
      replace hc := hc _ _ rfl
      obtain ⟨rfl, rfl⟩ := hc
      refine T_C2 (q := 186) (C := D_trust) rfl rfl rfl rfl rfl ⟨_, _, rfl, ⟨g, by omega, by omega⟩⟩ rfl (fun x M' hc => ?_)
      replace hc := hc _ _ rfl
      obtain ⟨e, cd⟩ := hc
      subst e
      have hx := qt (lowF (xishr c 1) 5) y5.1 y5.2
      have P := Pst_c g (x := M 12 (21 + lowF (xishr c 1) 5)) ⟨by omega, by omega⟩ (by omega) cd (us_Ok O (by omega) (Inv_tru I y5 (by omega))) (by rw [us_n (by omega)]; omega)
      refine T_ret rfl rfl (Or.inl rfl) ?_
      refine ⟨?_, P⟩
      unfold actV
      rw [if_neg (by omega), if_neg (by omega), if_pos (by omega)]
      first
        | (rw [if_pos (by omega)])
        | (rw [if_neg (by omega)])
    · refine T_aload_n (q := 143) (i := 0) rfl rfl rfl rfl rfl ?_
      refine T_iload_n (q := 144) (i := 2) rfl rfl rfl rfl rfl ?_
      refine T_iconst (q := 145) rfl rfl rfl ?_
      refine T_ishr (q := 146) rfl rfl rfl ?_
      refine T_bipush (q := 148) rfl rfl rfl (by decide) ?_
      refine T_L2I (q := 151) (b2 := 0) (C := C_L_low) rfl rfl rfl rfl rfl rfl ⟨_, _, rfl, ⟨by omega, by omega⟩⟩ rfl rfl rfl rfl (fun x M' hc => ?_)
      replace hc := hc _ _ rfl
      obtain ⟨rfl, rfl⟩ := hc
      refine T_iconst (q := 152) rfl rfl rfl ?_
      refine T_iload_n (q := 153) (i := 2) rfl rfl rfl rfl rfl ?_
      refine T_iconst (q := 154) rfl rfl rfl ?_
      refine T_ishr (q := 155) rfl rfl rfl ?_
      refine T_bipush (q := 157) rfl rfl rfl (by decide) ?_
      refine T_L2I (q := 160) (b2 := 0) (C := C_L_low) rfl rfl rfl rfl rfl rfl ⟨_, _, rfl, ⟨by omega, by omega⟩⟩ rfl rfl rfl rfl (fun x M' hc => ?_)
      replace hc := hc _ _ rfl
      obtain ⟨rfl, rfl⟩ := hc
      refine T_iadd (q := 161) rfl rfl rfl ?_
      refine T_C2 (q := 164) (C := D_weight) rfl rfl rfl rfl rfl ⟨_, _, rfl, ⟨g, by omega, by omega⟩⟩ rfl (fun x M' hc => ?_)
      replace hc := hc _ _ rfl
      obtain ⟨e, cd⟩ := hc
      subst e
      have hx := qw (lowF (xishr c 1) 6) y6.1 y6.2
      have P := Pst_c g (x := M 12 (15 + lowF (xishr c 1) 6)) ⟨by omega, by omega⟩ (by omega) cd (us_Ok O (by omega) (Inv_wgt I y6 (by omega))) (by rw [us_n (by omega)]; omega)
      refine T_goto (q := 167) (tgt := 186) rfl rfl rfl (by decide) ?_
      refine T_ret rfl rfl (Or.inl rfl) ?_
      refine ⟨?_, P⟩
      unfold actV
      rw [if_neg (by omega), if_neg (by omega), if_pos (by omega)]
      first
        | (rw [if_pos (by omega)])
        | (rw [if_neg (by omega)])
  · refine T_iload_n (q := 1) (i := 1) rfl rfl rfl rfl rfl ?_
    refine T_bipush (q := 3) rfl rfl rfl (by decide) ?_
    refine T_L2I (q := 6) (b2 := 0) (C := C_L_low) rfl rfl rfl rfl rfl rfl ⟨_, _, rfl, ⟨by omega, by omega⟩⟩ rfl rfl rfl rfl (fun x M' hc => ?_)
    replace hc := hc _ _ rfl
    obtain ⟨e, rfl⟩ := hc
    rw [hk] at e
    subst e
    refine T_tblIn (q := 60) (off := 181) (tgt := 187) rfl rfl rfl (by omega) (by omega) rfl (by decide) ?_
    refine T_aload_n (q := 188) (i := 0) rfl rfl rfl rfl rfl ?_
    refine T_iload_n (q := 189) (i := 2) rfl rfl rfl rfl rfl ?_
    refine T_iconst (q := 190) rfl rfl rfl ?_
    refine T_L2I (q := 193) (b2 := 0) (C := C_L_low) rfl rfl rfl rfl rfl rfl ⟨_, _, rfl, ⟨by omega, by omega⟩⟩ rfl rfl rfl rfl (fun x M' hc => ?_)
    replace hc := hc _ _ rfl
    obtain ⟨rfl, rfl⟩ := hc
    refine T_iload_n (q := 194) (i := 2) rfl rfl rfl rfl rfl ?_
    refine T_iconst (q := 195) rfl rfl rfl ?_
    refine T_ishr (q := 196) rfl rfl rfl ?_
    refine T_iconst (q := 197) rfl rfl rfl ?_
    refine T_L2I (q := 200) (b2 := 0) (C := C_L_low) rfl rfl rfl rfl rfl rfl ⟨_, _, rfl, ⟨by omega, by omega⟩⟩ rfl rfl rfl rfl (fun x M' hc => ?_)
    replace hc := hc _ _ rfl
    obtain ⟨rfl, rfl⟩ := hc
    refine T_C2 (q := 203) (C := D_hands) rfl rfl rfl rfl rfl ⟨_, _, rfl, ⟨g, by omega, by omega⟩⟩ rfl (fun x M' hc => ?_)
    replace hc := hc _ _ rfl
    obtain ⟨e, cd⟩ := hc
    subst e
    have hx := I.2.2.1 (lowF c 3) c3.1 c3.2
    have P := Pst_c g (x := M 12 (26 + 4 * lowF c 3)) ⟨by omega, by omega⟩ (by omega) cd (us_Ok O (by omega) (Inv_hds I c3 (by omega))) (by rw [us_n (by omega)]; omega)
    refine T_ret rfl rfl (Or.inl rfl) ?_
    refine ⟨?_, P⟩
    unfold actV
    rw [if_neg (by omega), if_neg (by omega), if_neg (by omega), if_pos (by omega)]
  · refine T_iload_n (q := 1) (i := 1) rfl rfl rfl rfl rfl ?_
    refine T_bipush (q := 3) rfl rfl rfl (by decide) ?_
    refine T_L2I (q := 6) (b2 := 0) (C := C_L_low) rfl rfl rfl rfl rfl rfl ⟨_, _, rfl, ⟨by omega, by omega⟩⟩ rfl rfl rfl rfl (fun x M' hc => ?_)
    replace hc := hc _ _ rfl
    obtain ⟨e, rfl⟩ := hc
    rw [hk] at e
    subst e
    refine T_tblIn (q := 60) (off := 198) (tgt := 204) rfl rfl rfl (by omega) (by omega) rfl (by decide) ?_
    refine T_aload_n (q := 205) (i := 0) rfl rfl rfl rfl rfl ?_
    refine T_iload_n (q := 206) (i := 1) rfl rfl rfl rfl rfl ?_
    refine T_iconst (q := 207) rfl rfl rfl ?_
    refine T_ishr (q := 208) rfl rfl rfl ?_
    refine T_bipush (q := 210) rfl rfl rfl (by decide) ?_
    refine T_L2I (q := 213) (b2 := 0) (C := C_L_low) rfl rfl rfl rfl rfl rfl ⟨_, _, rfl, ⟨by omega, by omega⟩⟩ rfl rfl rfl rfl (fun x M' hc => ?_)
    replace hc := hc _ _ rfl
    obtain ⟨rfl, rfl⟩ := hc
    refine T_iload_n (q := 214) (i := 2) rfl rfl rfl rfl rfl ?_
    refine T_iconst (q := 215) rfl rfl rfl ?_
    refine T_L2I (q := 218) (b2 := 0) (C := C_L_low) rfl rfl rfl rfl rfl rfl ⟨_, _, rfl, ⟨by omega, by omega⟩⟩ rfl rfl rfl rfl (fun x M' hc => ?_)
    replace hc := hc _ _ rfl
    obtain ⟨rfl, rfl⟩ := hc
    refine T_iload_n (q := 219) (i := 2) rfl rfl rfl rfl rfl ?_
    refine T_iconst (q := 220) rfl rfl rfl ?_
    refine T_ishr (q := 221) rfl rfl rfl ?_
    refine T_bipush (q := 223) rfl rfl rfl (by decide) ?_
    refine T_L2I (q := 226) (b2 := 0) (C := C_L_low) rfl rfl rfl rfl rfl rfl ⟨_, _, rfl, ⟨by omega, by omega⟩⟩ rfl rfl rfl rfl (fun x M' hc => ?_)
    replace hc := hc _ _ rfl
    obtain ⟨rfl, rfl⟩ := hc
    refine T_iload_n (q := 227) (i := 2) rfl rfl rfl rfl rfl ?_
    refine T_iconst (q := 228) rfl rfl rfl ?_
    refine T_ishr (q := 229) rfl rfl rfl ?_
    refine T_bipush (q := 231) rfl rfl rfl (by decide) ?_
    refine T_L2I (q := 234) (b2 := 0) (C := C_L_low) rfl rfl rfl rfl rfl rfl ⟨_, _, rfl, ⟨by omega, by omega⟩⟩ rfl rfl rfl rfl (fun x M' hc => ?_)
    replace hc := hc _ _ rfl
    obtain ⟨rfl, rfl⟩ := hc
    refine T_C4 (q := 237) (C := D_mend) rfl rfl rfl rfl rfl ⟨_, _, _, _, rfl, ⟨g, by omega, by omega, by omega, by omega⟩⟩ rfl (fun x M' hc => ?_)
    replace hc := hc _ _ _ _ rfl
    skip
    refine T_ret rfl rfl (Or.inl rfl) ?_
    rcases hc with ⟨z, e, sm⟩ | ⟨z, e, cd⟩
    · subst e
      unfold wtT at z
      refine ⟨?_, Pst_s ⟨by omega, by omega⟩ (by omega) sm⟩
      unfold actV
      rw [if_neg (by omega), if_neg (by omega), if_neg (by omega), if_neg (by omega), if_pos (by omega), if_neg z]
    · subst e
      have hI := mnd_Inv (t := lowF (xishr a 4) 12) (w := lowF c 2) (k := lowF (xishr c 1) 6) (v := lowF (xishr c 4) 10) I (by omega) (by omega) y6 (by omega)
      have db := dbt_bd hI.1 (t := lowF (xishr a 4) 12) (by omega)
      refine ⟨?_, Pst_c g ⟨by omega, by omega⟩ db.1 cd (mnd_Ok O z (by omega) hI) (by
        rw [show mnd (M 12) (lowF (xishr a 4) 12) (lowF c 2) (lowF (xishr c 1) 6) (lowF (xishr c 4) 10) 6 = M 12 6 from us_n (by omega)]
        omega)⟩
      unfold wtT at z
      unfold actV
      rw [if_neg (by omega), if_neg (by omega), if_neg (by omega), if_neg (by omega), if_pos (by omega), if_pos z]
  · refine T_iload_n (q := 1) (i := 1) rfl rfl rfl rfl rfl ?_
    refine T_bipush (q := 3) rfl rfl rfl (by decide) ?_
    refine T_L2I (q := 6) (b2 := 0) (C := C_L_low) rfl rfl rfl rfl rfl rfl ⟨_, _, rfl, ⟨by omega, by omega⟩⟩ rfl rfl rfl rfl (fun x M' hc => ?_)
    replace hc := hc _ _ rfl
    obtain ⟨e, rfl⟩ := hc
    rw [hk] at e
    subst e
    refine T_tblIn (q := 60) (off := 232) (tgt := 238) rfl rfl rfl (by omega) (by omega) rfl (by decide) ?_
    refine T_iload_n (q := 239) (i := 2) rfl rfl rfl rfl rfl ?_
    refine T_iconst (q := 240) rfl rfl rfl ?_
    refine T_L2I (q := 243) (b2 := 0) (C := C_L_low) rfl rfl rfl rfl rfl rfl ⟨_, _, rfl, ⟨by omega, by omega⟩⟩ rfl rfl rfl rfl (fun x M' hc => ?_)
    replace hc := hc _ _ rfl
    obtain ⟨rfl, rfl⟩ := hc
    refine T_if_ne (q := 246) (tgt := 261) rfl rfl rfl (by decide) (by omega) (fun h243 => ?_) (fun h243 => ?_)
    · refine T_aload_n (q := 262) (i := 0) rfl rfl rfl rfl rfl ?_
      refine T_iconst (q := 263) rfl rfl rfl ?_
      refine T_C1 (q := 266) (C := D_turn) rfl rfl rfl rfl rfl ⟨_, rfl, ⟨g, by omega, by omega⟩⟩ rfl (fun x M' hc => ?_)
      replace hc := hc _ rfl
      obtain ⟨e, cd⟩ := hc
      subst e
      have P := turn_P g O (n := 1) (by omega) cd
      refine T_ret rfl rfl (Or.inl rfl) ?_
      first
        | (refine ⟨?_, P⟩
           unfold actV
           rw [if_neg (by omega), if_neg (by omega), if_neg (by omega), if_neg (by omega), if_neg (by omega), if_pos (by omega), if_neg (by omega)])
        | (rcases hc with ⟨z, e, sm⟩ | ⟨z, e, cd⟩
           · subst e
             unfold wtT at z
             refine ⟨?_, Pst_s ⟨by omega, by omega⟩ (by omega) sm⟩
             unfold actV
             rw [if_neg (by omega), if_neg (by omega), if_neg (by omega), if_neg (by omega), if_neg (by omega), if_pos (by omega), if_pos (by omega), if_neg z]
           · subst e
             obtain ⟨OB, -, -, e6⟩ := sbk_Ok O z
             have z2 := z
             unfold wtT at z2
             have ab := acc_bd O (by omega) z2.1
             refine ⟨?_, Pst_c g ⟨by omega, by omega⟩ ab.1 cd OB (by omega)⟩
             unfold actV
             rw [if_neg (by omega), if_neg (by omega), if_neg (by omega), if_neg (by omega), if_neg (by omega), if_pos (by omega), if_pos (by omega), if_pos z2])
    · refine T_aload_n (q := 247) (i := 0) rfl rfl rfl rfl rfl ?_
      refine T_iload_n (q := 248) (i := 1) rfl rfl rfl rfl rfl ?_
      refine T_iconst (q := 249) rfl rfl rfl ?_
      refine T_ishr (q := 250) rfl rfl rfl ?_
      refine T_bipush (q := 252) rfl rfl rfl (by decide) ?_
      refine T_L2I (q := 255) (b2 := 0) (C := C_L_low) rfl rfl rfl rfl rfl rfl ⟨_, _, rfl, ⟨by omega, by omega⟩⟩ rfl rfl rfl rfl (fun x M' hc => ?_)
      replace hc := hc _ _ rfl
      obtain ⟨rfl, rfl⟩ := hc
      refine T_C1 (q := 258) (C := D_sendBack) rfl rfl rfl rfl rfl ⟨_, rfl, ⟨g, by omega⟩⟩ rfl (fun x M' hc => ?_)
      replace hc := hc _ rfl
      skip
      refine T_goto (q := 261) (tgt := 266) rfl rfl rfl (by decide) ?_
      refine T_ret rfl rfl (Or.inl rfl) ?_
      first
        | (refine ⟨?_, P⟩
           unfold actV
           rw [if_neg (by omega), if_neg (by omega), if_neg (by omega), if_neg (by omega), if_neg (by omega), if_pos (by omega), if_neg (by omega)])
        | (rcases hc with ⟨z, e, sm⟩ | ⟨z, e, cd⟩
           · subst e
             unfold wtT at z
             refine ⟨?_, Pst_s ⟨by omega, by omega⟩ (by omega) sm⟩
             unfold actV
             rw [if_neg (by omega), if_neg (by omega), if_neg (by omega), if_neg (by omega), if_neg (by omega), if_pos (by omega), if_pos (by omega), if_neg z]
           · subst e
             obtain ⟨OB, -, -, e6⟩ := sbk_Ok O z
             have z2 := z
             unfold wtT at z2
             have ab := acc_bd O (by omega) z2.1
             refine ⟨?_, Pst_c g ⟨by omega, by omega⟩ ab.1 cd OB (by omega)⟩
             unfold actV
             rw [if_neg (by omega), if_neg (by omega), if_neg (by omega), if_neg (by omega), if_neg (by omega), if_pos (by omega), if_pos (by omega), if_pos z2])
  · have J292 : ∀ v, v = lowF c (if lowF (xishr c 8) 6 = 0 then 30 else 3) → Run2 sx_L_act L (xcF scr) false 0 (fun x M' => x = actV a c (M 12) ∧ Pst M M' x) 0 292 [wR 3, wI a, wI c, none] [wI (1 + v), wR 3] M := by
      intro v hv
      have vb : 0 ≤ v ∧ v < 30 := by
        rw [hv]
        split <;> omega
      refine T_C1 (q := 295) (C := D_turn) rfl rfl rfl rfl rfl ⟨_, rfl, ⟨g, by omega, by omega⟩⟩ rfl (fun x M' hc => ?_)
      replace hc := hc _ rfl
      obtain ⟨e, cd⟩ := hc
      subst e
      refine T_ret rfl rfl (Or.inl rfl) ?_
      refine ⟨?_, turn_P g O (n := 1 + v) (by omega) cd⟩
      unfold actV
      rw [if_neg (by omega), if_neg (by omega), if_neg (by omega), if_neg (by omega), if_neg (by omega), if_neg (by omega), hv]
    refine T_iload_n (q := 1) (i := 1) rfl rfl rfl rfl rfl ?_
    refine T_bipush (q := 3) rfl rfl rfl (by decide) ?_
    refine T_L2I (q := 6) (b2 := 0) (C := C_L_low) rfl rfl rfl rfl rfl rfl ⟨_, _, rfl, ⟨by omega, by omega⟩⟩ rfl rfl rfl rfl (fun x M' hc => ?_)
    replace hc := hc _ _ rfl
    obtain ⟨e, rfl⟩ := hc
    rw [hk] at e
    subst e
    refine T_tblOut (q := 60) (tgt := 267) rfl rfl rfl (by omega) (by omega) (by decide) ?_
    refine T_aload_n (q := 268) (i := 0) rfl rfl rfl rfl rfl ?_
    refine T_iconst (q := 269) rfl rfl rfl ?_
    refine T_iload_n (q := 270) (i := 2) rfl rfl rfl rfl rfl ?_
    refine T_iload_n (q := 271) (i := 2) rfl rfl rfl rfl rfl ?_
    refine T_bipush (q := 273) rfl rfl rfl (by decide) ?_
    refine T_ishr (q := 274) rfl rfl rfl ?_
    refine T_bipush (q := 276) rfl rfl rfl (by decide) ?_
    refine T_L2I (q := 279) (b2 := 0) (C := C_L_low) rfl rfl rfl rfl rfl rfl ⟨_, _, rfl, ⟨by omega, by omega⟩⟩ rfl rfl rfl rfl (fun x M' hc => ?_)
    replace hc := hc _ _ rfl
    obtain ⟨rfl, rfl⟩ := hc
    refine T_if_ne (q := 282) (tgt := 287) rfl rfl rfl (by decide) (by omega) (fun h279 => ?_) (fun h279 => ?_)
    · refine T_iconst (q := 288) rfl rfl rfl ?_
      refine T_L2I (q := 291) (b2 := 0) (C := C_L_low) rfl rfl rfl rfl rfl rfl ⟨_, _, rfl, ⟨by omega, by omega⟩⟩ rfl rfl rfl rfl (fun x M' hc => ?_)
      replace hc := hc _ _ rfl
      obtain ⟨rfl, rfl⟩ := hc
      refine T_iadd (q := 292) rfl rfl rfl ?_
      first
        | exact J292 _ (by rw [if_pos (by omega)])
        | exact J292 _ (by rw [if_neg (by omega)])
    · refine T_bipush (q := 284) rfl rfl rfl (by decide) ?_
      refine T_goto (q := 287) (tgt := 288) rfl rfl rfl (by decide) ?_
      refine T_L2I (q := 291) (b2 := 0) (C := C_L_low) rfl rfl rfl rfl rfl rfl ⟨_, _, rfl, ⟨by omega, by omega⟩⟩ rfl rfl rfl rfl (fun x M' hc => ?_)
      replace hc := hc _ _ rfl
      obtain ⟨rfl, rfl⟩ := hc
      refine T_iadd (q := 292) rfl rfl rfl ?_
      first
        | exact J292 _ (by rw [if_pos (by omega)])
        | exact J292 _ (by rw [if_neg (by omega)])
