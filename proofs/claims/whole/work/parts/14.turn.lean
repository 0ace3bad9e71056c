/-- the places that no turn changes, but the turns' own -/
def Kp (j : Int) : Prop := (0 ≤ j ∧ j ≤ 5) ∨ j = 7 ∨ j = 10 ∨ (15 ≤ j ∧ j < 26) ∨ j = 26 ∨ j = 30 ∨ j = 34 ∨ (86 ≤ j ∧ j < 662 ∧ ((j - 86) % 9 < 4 ∨ (j - 86) % 9 = 6)) ∨ j < 0 ∨ 662 ≤ j
theorem lkg_k {f : Int → Int} {d j : Int} (hd : 0 ≤ d ∧ d < 3) (hn : 1 ≤ f (27 + 4 * d)) (I : Inv f) (hj : Kp j ∨ j = 6) : lkg f d j = f j := by
  have hle := fun e a b => I.le (d := e) a b
  have m16 := (hle d hd.1 hd.2).2
  obtain ⟨iB, i7, iC, i16, iD, -⟩ := id I
  have q0 := iD d 0 ⟨hd.1, hd.2, by omega, by omega⟩
  rw [Int.add_zero] at q0
  obtain ⟨q, hq⟩ : ∃ q, q = f (38 + 16 * d) := ⟨_, rfl⟩
  rw [← hq] at q0
  unfold Kp at hj
  have e0 : rmv (lkd f d) d 0 j = f j := rl_o hd m16 (by omega) (by omega) (by omega)
  unfold lkg
  rw [← hq]
  split
  · rw [pss_o (by omega) (by omega) (by omega) (by omega), e0]
  · split
    · rw [pss_o (by omega) (by omega) (by omega) (by omega), tks_o (by omega) (by omega), e0]
    · split
      · unfold opn
        rw [pss_o (by omega) (by omega) (by omega) (by omega), us_n (by omega), us_n (by omega), us_n (by omega), us_n (by omega), e0]
      · rename_i h1 h2 h3
        have y31 := hle (d + 1) (by omega) (by omega)
        have e31 : rmv (lkd f d) d 0 (27 + 4 * (d + 1)) = f (27 + 4 * (d + 1)) := rl_o hd m16 (by omega) (by omega) (by omega)
        have sm : f (27 + 4 * (d + 1)) < 16 := by
          have c0 := (iC 0 (by omega) (by omega)).2.2
          have c1 := (iC 1 (by omega) (by omega)).2.2
          have c2 := (iC 2 (by omega) (by omega)).2.2
          have m0 : f (27 + 4 * 0) = f 27 := rfl
          have m1 : f (27 + 4 * 1) = f 31 := rfl
          have m2 : f (27 + 4 * 2) = f 35 := rfl
          have : d = 0 ∨ d = 1 := by omega
          rcases this with rfl | rfl
          · show f (27 + 4 * 1) < 16
            omega
          · show f (27 + 4 * 2) < 16
            omega
        unfold jn
        rw [us_n (by omega), us_n (by omega), us_n (by rw [e31]; omega), e0]
theorem lk_pre {f : Int → Int} {d o : Int} (hd : 0 ≤ d ∧ d < 3) (hn : 1 ≤ f (27 + 4 * d)) (I : Inv f) (ho : 0 ≤ o ∧ o ≤ 64) :
    Bd f ∧ (1 ≤ f (27 + 4 * d) ∧ f (27 + 4 * d) ≤ 16) ∧ (0 ≤ f (38 + 16 * d) ∧ f (38 + 16 * d) < 64) ∧ (d < 2 → 0 ≤ f (31 + 4 * d) ∧ f (31 + 4 * d) < 16) ∧ f (93 + 9 * f (38 + 16 * d)) = 0 ∧ (0 ≤ f 9 ∧ f 9 ≤ 64) ∧ 0 ≤ o ∧ o ≤ 64 := by
  have hle := fun e a b => I.le (d := e) a b
  obtain ⟨iB, i7, iC, i16, iD, iE, iF, g8, g9, -⟩ := id I
  have q0 := iD d 0 ⟨hd.1, hd.2, by omega, by omega⟩
  rw [Int.add_zero] at q0
  have b9 := cF_bd f 2 (f 7).toNat
  refine ⟨iB, ⟨hn, (hle d hd.1 hd.2).2⟩, ⟨q0.1, by omega⟩, fun h => ?_, ((iF _ q0.1 q0.2.1).2.2 q0.2.2).1, by omega, ho.1, ho.2⟩
  have c0 := (iC 0 (by omega) (by omega)).2.2
  have c1 := (iC 1 (by omega) (by omega)).2.2
  have c2 := (iC 2 (by omega) (by omega)).2.2
  have m0 : f (27 + 4 * 0) = f 27 := rfl
  have m1 : f (27 + 4 * 1) = f 31 := rfl
  have m2 : f (27 + 4 * 2) = f 35 := rfl
  have : d = 0 ∨ d = 1 := by omega
  rcases this with rfl | rfl
  · show 0 ≤ f 31 ∧ f 31 < 16
    omega
  · show 0 ≤ f 35 ∧ f 35 < 16
    omega
theorem hnd_z {f : Int → Int} {d o : Int} {n : Nat} (h : f (27 + 4 * d) ≤ 0) : hnd d o (n + 1) f = f := if_pos h
theorem hnd_s {f : Int → Int} {d o : Int} {n : Nat} (h : ¬ f (27 + 4 * d) ≤ 0) (h2 : lkS f d o) : hnd d o (n + 1) f = lkd f d := (if_neg h).trans (if_pos h2)
theorem hnd_g {f : Int → Int} {d o : Int} {n : Nat} (h : ¬ f (27 + 4 * d) ≤ 0) (h2 : ¬ lkS f d o) : hnd d o (n + 1) f = hnd d o n (lkg f d) := (if_neg h).trans (if_neg h2)
theorem hnd_Inv {d o : Int} (hd : 0 ≤ d ∧ d < 3) : ∀ (n : Nat) (f : Int → Int), Inv f → Inv (hnd d o n f) ∧ ∀ j, Kp j ∨ j = 6 → hnd d o n f j = f j
  | 0, f, I => ⟨I, fun _ _ => rfl⟩
  | n + 1, f, I => by
    by_cases h : f (27 + 4 * d) ≤ 0
    · rw [hnd_z h]
      exact ⟨I, fun _ _ => rfl⟩
    · by_cases h2 : lkS f d o
      · rw [hnd_s h h2]
        exact ⟨lkd_Inv hd I, fun j hj => lkd_o (by unfold Kp at hj; omega)⟩
      · rw [hnd_g h h2]
        obtain ⟨a, b⟩ := hnd_Inv hd n (lkg f d) (lkg_Inv (o := o) hd (by omega) I h2)
        exact ⟨a, fun j hj => (b j hj).trans (lkg_k hd (by omega) I hj)⟩
theorem dly_Inv {d : Int} (hd : 0 ≤ d ∧ d < 3) : ∀ (n : Nat) (p : Int) (f : Int → Int), Inv f → 0 ≤ p → p + n ≤ f (27 + 4 * d) → Inv (dly d n p f) ∧ (∀ j, Kp j ∨ j = 6 ∨ j = 8 ∨ j = 9 ∨ (26 ≤ j ∧ j < 86) → dly d n p f j = f j)
  | 0, p, f, I, _, _ => ⟨I, fun _ _ => rfl⟩
  | n + 1, p, f, I, h0, h1 => by
    have q0 := I.2.2.2.2.1 d p ⟨hd.1, hd.2, h0, by omega⟩
    have i7 := I.2.1
    obtain ⟨a, b⟩ := dly_Inv hd n (p + 1) (tks f (f (38 + 16 * d + p)) (f 3) 13) (tks_Inv q0.1 (by omega) I) (by omega) (by rw [tks_o (by omega) (by omega)]; omega)
    refine ⟨a, fun j hj => (b j hj).trans (tks_o ?_ ?_)⟩
    · unfold Kp at hj
      omega
    · unfold Kp at hj
      omega
theorem dlD_Inv {d : Int} (hd : 0 ≤ d ∧ d < 3) {f : Int → Int} (I : Inv f) : Inv (dlD f d) ∧ (∀ j, Kp j ∨ j = 6 ∨ j = 8 ∨ j = 9 ∨ (26 ≤ j ∧ j < 86) → dlD f d j = f j) := by
  have := (I.le (d := d) hd.1 hd.2).1
  exact dly_Inv hd _ 0 f I (by omega) (by omega)
def hA : Nat → (Int → Int) → (Int → Int)
  | 0, f => f
  | n + 1, f => hA n (hnD f (n : Int))
def dB : Nat → Int → (Int → Int) → (Int → Int)
  | 0, _, f => f
  | n + 1, d, f => dB n (d + 1) (dlD f d)
theorem hA_Inv : ∀ (n : Nat) (f : Int → Int), n ≤ 3 → Inv f → Inv (hA n f) ∧ ∀ j, Kp j ∨ j = 6 → hA n f j = f j
  | 0, f, _, I => ⟨I, fun _ _ => rfl⟩
  | n + 1, f, h, I => by
    obtain ⟨a, b⟩ := hnd_Inv (d := n) (o := f 9) (by omega) (f (26 + 4 * (n : Int))).toNat f I
    obtain ⟨c, e⟩ := hA_Inv n _ (by omega) a
    exact ⟨c, fun j hj => (e j hj).trans (b j hj)⟩
theorem dB_Inv : ∀ (n : Nat) (d : Int) (f : Int → Int), 0 ≤ d → d + n ≤ 3 → Inv f → Inv (dB n d f) ∧ ∀ j, Kp j ∨ j = 6 ∨ j = 8 ∨ j = 9 ∨ (26 ≤ j ∧ j < 86) → dB n d f j = f j
  | 0, d, f, _, _, I => ⟨I, fun _ _ => rfl⟩
  | n + 1, d, f, h0, h, I => by
    obtain ⟨a, b⟩ := dlD_Inv (d := d) (by omega) I
    obtain ⟨c, e⟩ := dB_Inv n (d + 1) _ (by omega) (by omega) a
    exact ⟨c, fun j hj => (e j hj).trans (b j hj)⟩
theorem tn1_eq (f : Int → Int) : tn1 f = us (dB 3 0 (hA 3 f)) 6 (dB 3 0 (hA 3 f) 6 + 1) := tn1_def f
theorem tn1_Inv {f : Int → Int} (I : Inv f) : Inv (tn1 f) ∧ (∀ j, Kp j → tn1 f j = f j) ∧ tn1 f 6 = f 6 + 1 := by
  obtain ⟨a, b⟩ := hA_Inv 3 f (by omega) I
  obtain ⟨c, e⟩ := dB_Inv 3 0 (hA 3 f) (by omega) (by omega) a
  have e6 : dB 3 0 (hA 3 f) 6 = f 6 := (e 6 (by omega)).trans (b 6 (by omega))
  rw [tn1_eq, e6]
  have i6 := I.2.1
  refine ⟨Inv_same c (by rw [us_s]; omega) (fun j _ _ h => us_n h) (fun j _ _ => us_n (by omega)) (fun t _ _ => ⟨us_n (by omega), us_n (by omega)⟩) (fun j _ _ => us_n (by omega)) (fun t _ _ => ⟨us_n (by omega), us_n (by omega), us_n (by omega), us_n (by omega), us_n (by omega), us_n (by omega)⟩), fun j hj => ?_, us_s⟩
  rw [us_n (by unfold Kp at hj; omega), e j (Or.inl hj), b j (Or.inl hj)]
theorem tnN_Inv : ∀ (n : Nat) (f : Int → Int), Inv f → Inv (tnN n f) ∧ (∀ j, Kp j → tnN n f j = f j) ∧ tnN n f 6 = f 6 + n
  | 0, f, I => ⟨I, fun _ _ => rfl, by show f 6 = f 6 + 0; omega⟩
  | n + 1, f, I => by
    obtain ⟨a, b, c⟩ := tn1_Inv I
    obtain ⟨d, e, g⟩ := tnN_Inv n _ a
    refine ⟨d, fun j hj => (e j hj).trans (b j hj), ?_⟩
    show tnN n (tn1 f) 6 = _
    rw [g, c]
    omega
abbrev C_X7_gone : Ct := (2, true, fun as M => ∃ (o : Nat) (b : Int), as = [wR o, wI b] ∧ (o = 11 ∧ (0 ≤ b ∧ b ≤ 4634)), fun as M x M' => ∀ (o : Nat) (b : Int), as = [wR o, wI b] → (((sh b (M 12)) 8 + (sh b (M 12)) 9) = x ∧ (M) = M'))
def sx_X7_gone : Sx := (tb_X7_gone, fdX7, kLX7, kIX7, sgX7, ntX7, [], 1)
set_option maxRecDepth 100000 in
set_option maxHeartbeats 1000000 in
theorem ok_X7_gone (L : Nat) (scr : Int → Int) (o : Nat) (b : Int) (M : Mem) (hp : o = 11 ∧ (0 ≤ b ∧ b ≤ 4634)) : Runs sx_X7_gone L (xcF scr) (fun x M' => ((sh b (M 12)) 8 + (sh b (M 12)) 9) = x ∧ (M) = M') 0 [wR o, wI b] [] M := by
  obtain ⟨rfl, h1⟩ := hp
  refine R_aload_n (q := 1) (i := 0) rfl rfl rfl rfl ?_
  refine R_getR (q := 4) rfl rfl rfl rfl rfl (by omega) ?_
  refine R_iload_n (q := 5) (i := 1) rfl rfl rfl rfl ?_
  refine R_bipush (q := 7) rfl rfl (by decide) ?_
  refine R_iadd (q := 8) rfl rfl ?_
  refine R_iald (q := 9) (v := (sh b (M 12)) 8) rfl rfl rfl (by omega) (by omega) (by first | exact rd12 (by omega) | exact rdmr (by omega)) ?_
  refine R_aload_n (q := 10) (i := 0) rfl rfl rfl rfl ?_
  refine R_getR (q := 13) rfl rfl rfl rfl rfl (by omega) ?_
  refine R_iload_n (q := 14) (i := 1) rfl rfl rfl rfl ?_
  refine R_bipush (q := 16) rfl rfl (by decide) ?_
  refine R_iadd (q := 17) rfl rfl ?_
  refine R_iald (q := 18) (v := (sh b (M 12)) 9) rfl rfl rfl (by omega) (by omega) (by first | exact rd12 (by omega) | exact rdmr (by omega)) ?_
  refine R_iadd (q := 19) rfl rfl ?_
  refine R_ret rfl (Or.inl rfl) ?_
  exact ⟨rfl, rfl⟩
set_option maxRecDepth 100000 in
theorem mt_X7_gone : MtOK yX7_gone cX7_gone 2 (some .int) 0 C_X7_gone := by
  refine mt_of sx_X7_gone (by decide +kernel) (Or.inl ⟨rfl, rfl, rfl⟩) (by decide +kernel) fdX7_ok kLX7_ok kIX7_ok sgX7_ok ntX7_ok
    (all_nil) ?_ ?_
  · rintro as M - ⟨o, b, rfl, hp⟩
    exact Nat.le_of_ble_eq_true rfl
  · rintro L scr as M - ⟨o, b, rfl, hp⟩
    exact Runs.mono (fun x M' h _ _ e => by cases e; exact h) (ok_X7_gone L scr o b M hp)
abbrev C_X7_turn1 : Ct := (2, false, fun as M => ∃ (o : Nat) (b : Int), as = [wR o, wI b] ∧ (o = 11 ∧ (0 ≤ b ∧ b ≤ 4634) ∧ Inv (sh b (M 12))), fun as M x M' => ∀ (o : Nat) (b : Int), as = [wR o, wI b] → ((mr b M (tn1 (sh b (M 12)))) = M'))
def sx_X7_turn1 : Sx := (tb_X7_turn1, fdX7, kLX7, kIX7, sgX7, ntX7, [(20, (9, C_X7_deskAt)), (79, (7, C_X7_looks)), (56, (9, C_X7_queueAt)), (59, (7, C_X7_takes))], 0)
set_option maxRecDepth 100000 in
set_option maxHeartbeats 1000000 in
theorem ok_X7_turn1 (L : Nat) (scr : Int → Int) (o : Nat) (b : Int) (M : Mem) (hp : o = 11 ∧ (0 ≤ b ∧ b ≤ 4634) ∧ Inv (sh b (M 12))) : Runs sx_X7_turn1 L (xcF scr) (fun x M' => (mr b M (tn1 (sh b (M 12)))) = M') 0 [wR o, wI b, none, none, none, none, none] [] M := by
  obtain ⟨rfl, h1, I0⟩ := hp
  generalize hfin : (fun (x : Int) (M' : Mem) => (mr b M (tn1 (sh b (M 12)))) = M') = Qp
  have LZ : ∀ (d o0 h h' : Int) (f : Int → Int), Inv f → (0 ≤ d ∧ d < 3) → (0 ≤ h ∧ h ≤ 4) →
      (∀ x5 x6 : Int, Runs sx_X7_turn1 L (xcF scr) Qp 82 [wR 11, wI b, wI d, wI (b + 26 + 4 * d), wI o0, wI x5, wI x6] [] (mr b M f)) →
      Runs sx_X7_turn1 L (xcF scr) Qp 29 [wR 11, wI b, wI d, wI (b + 26 + 4 * d), wI o0, wI 0, wI h] [] (mr b M f) := by
    intro d o0 h h' f I hd hh K
    have c := I.2.2.1 d hd.1 hd.2
    refine R_iload (q := 31) rfl rfl rfl ?_
    refine R_aload_n (q := 32) (i := 0) rfl rfl rfl rfl ?_
    refine R_getR (q := 35) rfl rfl rfl rfl rfl (by omega) ?_
    refine R_iload_n (q := 36) (i := 3) rfl rfl rfl rfl ?_
    refine R_iconst (q := 37) rfl rfl ?_
    refine R_iadd (q := 38) rfl rfl ?_
    refine R_iald (q := 39) (v := f (26 + 4 * d)) rfl rfl rfl (by omega) (by omega) (by first | exact rd12 (by omega) | exact rdmr (by omega)) ?_
    refine R_icmp_ge (q := 42) (tgt := 82) rfl rfl (by decide) (by omega) (by omega) (fun h39 => ?_) (fun h39 => ?_)
    · exact K _ _
    · refine R_iload (q := 44) rfl rfl rfl ?_
      refine R_if_eq (q := 47) (tgt := 82) rfl rfl (by decide) (by omega) (fun h44 => ?_) (fun h44 => ?_)
      · exact K _ _
      · omega
  have LH : ∀ (d o0 : Int) (n : Nat) (f : Int → Int) (h : Int), Inv f → (0 ≤ d ∧ d < 3) → (0 ≤ o0 ∧ o0 ≤ 64) → 0 ≤ h → h + n = f (26 + 4 * d) →
      (∀ x5 x6 : Int, Runs sx_X7_turn1 L (xcF scr) Qp 82 [wR 11, wI b, wI d, wI (b + 26 + 4 * d), wI o0, wI x5, wI x6] [] (mr b M (hnd d o0 n f))) →
      Runs sx_X7_turn1 L (xcF scr) Qp 29 [wR 11, wI b, wI d, wI (b + 26 + 4 * d), wI o0, wI 1, wI h] [] (mr b M f) := by
    intro d o0 n
    induction n with
    | zero =>
      intro f h I hd ho h0 hn K
      have c := I.2.2.1 d hd.1 hd.2
      refine R_iload (q := 31) rfl rfl rfl ?_
      refine R_aload_n (q := 32) (i := 0) rfl rfl rfl rfl ?_
      refine R_getR (q := 35) rfl rfl rfl rfl rfl (by omega) ?_
      refine R_iload_n (q := 36) (i := 3) rfl rfl rfl rfl ?_
      refine R_iconst (q := 37) rfl rfl ?_
      refine R_iadd (q := 38) rfl rfl ?_
      refine R_iald (q := 39) (v := f (26 + 4 * d)) rfl rfl rfl (by omega) (by omega) (by first | exact rd12 (by omega) | exact rdmr (by omega)) ?_
      refine R_icmp_ge (q := 42) (tgt := 82) rfl rfl (by decide) (by omega) (by omega) (fun h39 => ?_) (fun h39 => ?_)
      · exact K _ _
      · omega
    | succ n ih =>
      intro f h I hd ho h0 hn K
      have c := I.2.2.1 d hd.1 hd.2
      have c16 := I.le (d := d) hd.1 hd.2
      by_cases hm : f (27 + 4 * d) ≤ 0
      · rw [hnd_z hm] at K
        refine R_iload (q := 31) rfl rfl rfl ?_
        refine R_aload_n (q := 32) (i := 0) rfl rfl rfl rfl ?_
        refine R_getR (q := 35) rfl rfl rfl rfl rfl (by omega) ?_
        refine R_iload_n (q := 36) (i := 3) rfl rfl rfl rfl ?_
        refine R_iconst (q := 37) rfl rfl ?_
        refine R_iadd (q := 38) rfl rfl ?_
        refine R_iald (q := 39) (v := f (26 + 4 * d)) rfl rfl rfl (by omega) (by omega) (by first | exact rd12 (by omega) | exact rdmr (by omega)) ?_
        refine R_icmp_ge (q := 42) (tgt := 82) rfl rfl (by decide) (by omega) (by omega) (fun h39 => ?_) (fun h39 => ?_)
        · omega
        · refine R_iload (q := 44) rfl rfl rfl ?_
          refine R_if_eq (q := 47) (tgt := 82) rfl rfl (by decide) (by omega) (fun h44 => ?_) (fun h44 => ?_)
          · omega
          · refine R_aload_n (q := 48) (i := 0) rfl rfl rfl rfl ?_
            refine R_getR (q := 51) rfl rfl rfl rfl rfl (by omega) ?_
            refine R_iload_n (q := 52) (i := 3) rfl rfl rfl rfl ?_
            refine R_iconst (q := 53) rfl rfl ?_
            refine R_iadd (q := 54) rfl rfl ?_
            refine R_iald (q := 55) (v := f (27 + 4 * d)) rfl rfl rfl (by omega) (by omega) (by first | exact rd12 (by omega) | exact rdmr (by omega)) ?_
            refine R_if_le (q := 58) (tgt := 73) rfl rfl (by decide) (by omega) (fun h55 => ?_) (fun h55 => ?_)
            · refine R_iconst (q := 74) rfl rfl ?_
              refine R_istore (q := 76) rfl rfl rfl ?_
              refine R_iinc (q := 79) rfl rfl rfl rfl ?_
              refine R_goto (q := 82) (tgt := 29) rfl rfl (by decide) ?_
              exact LZ d o0 (h + 1) 0 f I hd (by omega) K
            · omega
      · by_cases hs : lkS f d o0
        · rw [hnd_s hm hs] at K
          refine R_iload (q := 31) rfl rfl rfl ?_
          refine R_aload_n (q := 32) (i := 0) rfl rfl rfl rfl ?_
          refine R_getR (q := 35) rfl rfl rfl rfl rfl (by omega) ?_
          refine R_iload_n (q := 36) (i := 3) rfl rfl rfl rfl ?_
          refine R_iconst (q := 37) rfl rfl ?_
          refine R_iadd (q := 38) rfl rfl ?_
          refine R_iald (q := 39) (v := f (26 + 4 * d)) rfl rfl rfl (by omega) (by omega) (by first | exact rd12 (by omega) | exact rdmr (by omega)) ?_
          refine R_icmp_ge (q := 42) (tgt := 82) rfl rfl (by decide) (by omega) (by omega) (fun h39 => ?_) (fun h39 => ?_)
          · omega
          · refine R_iload (q := 44) rfl rfl rfl ?_
            refine R_if_eq (q := 47) (tgt := 82) rfl rfl (by decide) (by omega) (fun h44 => ?_) (fun h44 => ?_)
            · omega
            · refine R_aload_n (q := 48) (i := 0) rfl rfl rfl rfl ?_
              refine R_getR (q := 51) rfl rfl rfl rfl rfl (by omega) ?_
              refine R_iload_n (q := 52) (i := 3) rfl rfl rfl rfl ?_
              refine R_iconst (q := 53) rfl rfl ?_
              refine R_iadd (q := 54) rfl rfl ?_
              refine R_iald (q := 55) (v := f (27 + 4 * d)) rfl rfl rfl (by omega) (by omega) (by first | exact rd12 (by omega) | exact rdmr (by omega)) ?_
              refine R_if_le (q := 58) (tgt := 73) rfl rfl (by decide) (by omega) (fun h55 => ?_) (fun h55 => ?_)
              · omega
              · refine R_aload_n (q := 59) (i := 0) rfl rfl rfl rfl ?_
                refine R_iload_n (q := 60) (i := 1) rfl rfl rfl rfl ?_
                refine R_iload_n (q := 61) (i := 2) rfl rfl rfl rfl ?_
                refine R_iload (q := 63) rfl rfl rfl ?_
                refine R_cV3I (q := 66) (ci := 7) (C := C_X7_looks) rfl rfl rfl rfl rfl ⟨_, _, _, _, rfl, ⟨rfl, h1, hd, by simp only [sh_mr]; exact lk_pre hd (by omega) I ho⟩⟩ rfl rfl (by omega) (fun x M' hc => ?_)
                replace hc := hc _ _ _ _ rfl
                simp only [sh_mr, mr_mr] at hc
                rw [if_pos hs] at hc
                obtain ⟨rfl, rfl⟩ := hc
                refine R_if_eq (q := 69) (tgt := 73) rfl rfl (by decide) (by omega) (fun h66 => ?_) (fun h66 => ?_)
                · refine R_iconst (q := 74) rfl rfl ?_
                  refine R_istore (q := 76) rfl rfl rfl ?_
                  refine R_iinc (q := 79) rfl rfl rfl rfl ?_
                  refine R_goto (q := 82) (tgt := 29) rfl rfl (by decide) ?_
                  exact LZ d o0 (h + 1) 0 (lkd f d) (lkd_Inv hd I) hd (by omega) K
                · omega
        · rw [hnd_g hm hs] at K
          refine R_iload (q := 31) rfl rfl rfl ?_
          refine R_aload_n (q := 32) (i := 0) rfl rfl rfl rfl ?_
          refine R_getR (q := 35) rfl rfl rfl rfl rfl (by omega) ?_
          refine R_iload_n (q := 36) (i := 3) rfl rfl rfl rfl ?_
          refine R_iconst (q := 37) rfl rfl ?_
          refine R_iadd (q := 38) rfl rfl ?_
          refine R_iald (q := 39) (v := f (26 + 4 * d)) rfl rfl rfl (by omega) (by omega) (by first | exact rd12 (by omega) | exact rdmr (by omega)) ?_
          refine R_icmp_ge (q := 42) (tgt := 82) rfl rfl (by decide) (by omega) (by omega) (fun h39 => ?_) (fun h39 => ?_)
          · omega
          · refine R_iload (q := 44) rfl rfl rfl ?_
            refine R_if_eq (q := 47) (tgt := 82) rfl rfl (by decide) (by omega) (fun h44 => ?_) (fun h44 => ?_)
            · omega
            · refine R_aload_n (q := 48) (i := 0) rfl rfl rfl rfl ?_
              refine R_getR (q := 51) rfl rfl rfl rfl rfl (by omega) ?_
              refine R_iload_n (q := 52) (i := 3) rfl rfl rfl rfl ?_
              refine R_iconst (q := 53) rfl rfl ?_
              refine R_iadd (q := 54) rfl rfl ?_
              refine R_iald (q := 55) (v := f (27 + 4 * d)) rfl rfl rfl (by omega) (by omega) (by first | exact rd12 (by omega) | exact rdmr (by omega)) ?_
              refine R_if_le (q := 58) (tgt := 73) rfl rfl (by decide) (by omega) (fun h55 => ?_) (fun h55 => ?_)
              · omega
              · refine R_aload_n (q := 59) (i := 0) rfl rfl rfl rfl ?_
                refine R_iload_n (q := 60) (i := 1) rfl rfl rfl rfl ?_
                refine R_iload_n (q := 61) (i := 2) rfl rfl rfl rfl ?_
                refine R_iload (q := 63) rfl rfl rfl ?_
                refine R_cV3I (q := 66) (ci := 7) (C := C_X7_looks) rfl rfl rfl rfl rfl ⟨_, _, _, _, rfl, ⟨rfl, h1, hd, by simp only [sh_mr]; exact lk_pre hd (by omega) I ho⟩⟩ rfl rfl (by omega) (fun x M' hc => ?_)
                replace hc := hc _ _ _ _ rfl
                simp only [sh_mr, mr_mr] at hc
                rw [if_neg hs] at hc
                obtain ⟨rfl, rfl⟩ := hc
                refine R_if_eq (q := 69) (tgt := 73) rfl rfl (by decide) (by omega) (fun h66 => ?_) (fun h66 => ?_)
                · omega
                · refine R_iconst (q := 70) rfl rfl ?_
                  refine R_goto (q := 73) (tgt := 74) rfl rfl (by decide) ?_
                  refine R_istore (q := 76) rfl rfl rfl ?_
                  refine R_iinc (q := 79) rfl rfl rfl rfl ?_
                  refine R_goto (q := 82) (tgt := 29) rfl rfl (by decide) ?_
                  exact ih (lkg f d) (h + 1) (lkg_Inv hd (by omega) I hs) hd ho (by omega) (by rw [lkg_k hd (by omega) I (Or.inl (by unfold Kp; omega))]; omega) K
  have LO : ∀ (n : Nat) (f : Int → Int) (x3 x4 x5 x6 : PV), n ≤ 3 → Inv f →
      (∀ (x2 : Int) (x3 x4 x5 x6 : PV), Runs sx_X7_turn1 L (xcF scr) Qp 88 [wR 11, wI b, wI x2, x3, x4, x5, x6] [] (mr b M (hA n f))) →
      Runs sx_X7_turn1 L (xcF scr) Qp 2 [wR 11, wI b, wI ((n : Int) - 1), x3, x4, x5, x6] [] (mr b M f) := by
    intro n
    induction n with
    | zero =>
      intro f x3 x4 x5 x6 hn I K
      refine R_iload_n (q := 3) (i := 2) rfl rfl rfl rfl ?_
      refine R_if_lt (q := 6) (tgt := 88) rfl rfl (by decide) (by omega) (fun h3 => ?_) (fun h3 => ?_)
      · exact K _ _ _ _ _
      · omega
    | succ n ih =>
      intro f x3 x4 x5 x6 hn I K
      have c := I.2.2.1 (n : Int) (by omega) (by omega)
      have b9 := cF_bd f 2 (f 7).toNat
      have g9 := I.2.2.2.2.2.2.2.2.1
      have i7 := I.2.1
      rw [show ((n + 1 : Nat) : Int) - 1 = (n : Int) by omega]
      refine R_iload_n (q := 3) (i := 2) rfl rfl rfl rfl ?_
      refine R_if_lt (q := 6) (tgt := 88) rfl rfl (by decide) (by omega) (fun h3 => ?_) (fun h3 => ?_)
      · omega
      · refine R_iload_n (q := 7) (i := 1) rfl rfl rfl rfl ?_
        refine R_iload_n (q := 8) (i := 2) rfl rfl rfl rfl ?_
        refine R_cS2I (q := 11) (ci := 9) (C := C_X7_deskAt) rfl rfl rfl rfl rfl ⟨_, _, rfl, (by first | trivial | assumption | omega)⟩ rfl rfl (fun x M' hc => ?_)
        replace hc := hc _ _ rfl
        try simp only [sh_mr, mr_mr] at hc
        obtain ⟨rfl, rfl⟩ := hc
        refine R_istore_n (q := 12) (i := 3) rfl rfl rfl rfl ?_
        refine R_aload_n (q := 13) (i := 0) rfl rfl rfl rfl ?_
        refine R_getR (q := 16) rfl rfl rfl rfl rfl (by omega) ?_
        refine R_iload_n (q := 17) (i := 1) rfl rfl rfl rfl ?_
        refine R_bipush (q := 19) rfl rfl (by decide) ?_
        refine R_iadd (q := 20) rfl rfl ?_
        refine R_iald (q := 21) (v := f 9) rfl rfl rfl (by omega) (by omega) (by first | exact rd12 (by omega) | exact rdmr (by omega)) ?_
        refine R_istore (q := 23) rfl rfl rfl ?_
        refine R_iconst (q := 24) rfl rfl ?_
        refine R_istore (q := 26) rfl rfl rfl ?_
        refine R_iconst (q := 27) rfl rfl ?_
        refine R_istore (q := 29) rfl rfl rfl ?_
        refine LH (n : Int) (f 9) (f (26 + 4 * (n : Int))).toNat f 0 I (by omega) (by omega) (by omega) (by omega) (fun y5 y6 => ?_)
        have I2 := (hnd_Inv (d := (n : Int)) (o := f 9) (by omega) (f (26 + 4 * (n : Int))).toNat f I).1
        refine R_iinc (q := 85) rfl rfl rfl rfl ?_
        refine R_goto (q := 88) (tgt := 2) rfl rfl (by decide) ?_
        exact ih _ _ _ _ _ (by omega) I2 K
  have LP : ∀ (d : Int) (n : Nat) (p : Int) (f : Int → Int) (x4 x5 x6 : PV), Inv f → (0 ≤ d ∧ d < 3) → 0 ≤ p → p + n = f (27 + 4 * d) →
      (∀ (x3 : Int), Runs sx_X7_turn1 L (xcF scr) Qp 145 [wR 11, wI b, wI d, wI x3, x4, x5, x6] [] (mr b M (dly d n p f))) →
      Runs sx_X7_turn1 L (xcF scr) Qp 97 [wR 11, wI b, wI d, wI p, x4, x5, x6] [] (mr b M f) := by
    intro d n
    induction n with
    | zero =>
      intro p f x4 x5 x6 I hd hp0 hn K
      have c16 := I.le (d := d) hd.1 hd.2
      refine R_iload_n (q := 98) (i := 3) rfl rfl rfl rfl ?_
      refine R_aload_n (q := 99) (i := 0) rfl rfl rfl rfl ?_
      refine R_getR (q := 102) rfl rfl rfl rfl rfl (by omega) ?_
      refine R_iload_n (q := 103) (i := 1) rfl rfl rfl rfl ?_
      refine R_iload_n (q := 104) (i := 2) rfl rfl rfl rfl ?_
      refine R_cS2I (q := 107) (ci := 9) (C := C_X7_deskAt) rfl rfl rfl rfl rfl ⟨_, _, rfl, (by first | trivial | assumption | omega)⟩ rfl rfl (fun x M' hc => ?_)
      replace hc := hc _ _ rfl
      try simp only [sh_mr, mr_mr] at hc
      obtain ⟨rfl, rfl⟩ := hc
      refine R_iconst (q := 108) rfl rfl ?_
      refine R_iadd (q := 109) rfl rfl ?_
      refine R_iald (q := 110) (v := f (27 + 4 * d)) rfl rfl rfl (by omega) (by omega) (by first | exact rd12 (by omega) | exact rdmr (by omega)) ?_
      refine R_icmp_ge (q := 113) (tgt := 145) rfl rfl (by decide) (by omega) (by omega) (fun h110 => ?_) (fun h110 => ?_)
      · exact K _
      · omega
    | succ n ih =>
      intro p f x4 x5 x6 I hd hp0 hn K
      have c16 := I.le (d := d) hd.1 hd.2
      have q0 := I.2.2.2.2.1 d p ⟨hd.1, hd.2, hp0, by omega⟩
      have i7 := I.2.1
      refine R_iload_n (q := 98) (i := 3) rfl rfl rfl rfl ?_
      refine R_aload_n (q := 99) (i := 0) rfl rfl rfl rfl ?_
      refine R_getR (q := 102) rfl rfl rfl rfl rfl (by omega) ?_
      refine R_iload_n (q := 103) (i := 1) rfl rfl rfl rfl ?_
      refine R_iload_n (q := 104) (i := 2) rfl rfl rfl rfl ?_
      refine R_cS2I (q := 107) (ci := 9) (C := C_X7_deskAt) rfl rfl rfl rfl rfl ⟨_, _, rfl, (by first | trivial | assumption | omega)⟩ rfl rfl (fun x M' hc => ?_)
      replace hc := hc _ _ rfl
      try simp only [sh_mr, mr_mr] at hc
      obtain ⟨rfl, rfl⟩ := hc
      refine R_iconst (q := 108) rfl rfl ?_
      refine R_iadd (q := 109) rfl rfl ?_
      refine R_iald (q := 110) (v := f (27 + 4 * d)) rfl rfl rfl (by omega) (by omega) (by first | exact rd12 (by omega) | exact rdmr (by omega)) ?_
      refine R_icmp_ge (q := 113) (tgt := 145) rfl rfl (by decide) (by omega) (by omega) (fun h110 => ?_) (fun h110 => ?_)
      · omega
      · refine R_aload_n (q := 114) (i := 0) rfl rfl rfl rfl ?_
        refine R_iload_n (q := 115) (i := 1) rfl rfl rfl rfl ?_
        refine R_aload_n (q := 116) (i := 0) rfl rfl rfl rfl ?_
        refine R_getR (q := 119) rfl rfl rfl rfl rfl (by omega) ?_
        refine R_iload_n (q := 120) (i := 1) rfl rfl rfl rfl ?_
        refine R_iload_n (q := 121) (i := 2) rfl rfl rfl rfl ?_
        refine R_iload_n (q := 122) (i := 3) rfl rfl rfl rfl ?_
        refine R_cS3I (q := 125) (ci := 9) (C := C_X7_queueAt) rfl rfl rfl rfl rfl ⟨_, _, _, rfl, (by first | trivial | assumption | omega)⟩ rfl rfl (fun x M' hc => ?_)
        replace hc := hc _ _ _ rfl
        try simp only [sh_mr, mr_mr] at hc
        obtain ⟨rfl, rfl⟩ := hc
        refine R_iald (q := 126) (v := f (38 + 16 * d + p)) rfl rfl rfl (by omega) (by omega) (by first | exact rd12 (by omega) | exact rdmr (by omega)) ?_
        refine R_aload_n (q := 127) (i := 0) rfl rfl rfl rfl ?_
        refine R_getR (q := 130) rfl rfl rfl rfl rfl (by omega) ?_
        refine R_iload_n (q := 131) (i := 1) rfl rfl rfl rfl ?_
        refine R_iconst (q := 132) rfl rfl ?_
        refine R_iadd (q := 133) rfl rfl ?_
        refine R_iald (q := 134) (v := f 3) rfl rfl rfl (by omega) (by omega) (by first | exact rd12 (by omega) | exact rdmr (by omega)) ?_
        refine R_bipush (q := 136) rfl rfl (by decide) ?_
        refine R_cV4N (q := 139) (ci := 7) (C := C_X7_takes) rfl rfl rfl rfl rfl ⟨_, _, _, _, _, rfl, ⟨rfl, h1, by omega, by omega⟩⟩ rfl rfl (by omega) (fun M' hc => ?_)
        replace hc := hc _ _ _ _ _ rfl
        try simp only [sh_mr, mr_mr] at hc
        subst hc
        refine R_iinc (q := 142) rfl rfl rfl rfl ?_
        refine R_goto (q := 145) (tgt := 97) rfl rfl (by decide) ?_
        exact ih (p + 1) (tks f (f (38 + 16 * d + p)) (f 3) 13) _ _ _ (tks_Inv q0.1 (by omega) I) hd (by omega) (by rw [tks_o (by omega) (by omega)]; omega) K
  have LQ : ∀ (n : Nat) (d : Int) (f : Int → Int) (x3 x4 x5 x6 : PV), 0 ≤ d → d + n = 3 → Inv f →
      (∀ (x2 : Int) (x3 : PV), Runs sx_X7_turn1 L (xcF scr) Qp 151 [wR 11, wI b, wI x2, x3, x4, x5, x6] [] (mr b M (dB n d f))) →
      Runs sx_X7_turn1 L (xcF scr) Qp 90 [wR 11, wI b, wI d, x3, x4, x5, x6] [] (mr b M f) := by
    intro n
    induction n with
    | zero =>
      intro d f x3 x4 x5 x6 hd hn I K
      refine R_iload_n (q := 91) (i := 2) rfl rfl rfl rfl ?_
      refine R_iconst (q := 92) rfl rfl ?_
      refine R_icmp_ge (q := 95) (tgt := 151) rfl rfl (by decide) (by omega) (by omega) (fun h92 => ?_) (fun h92 => ?_)
      · exact K _ _
      · omega
    | succ n ih =>
      intro d f x3 x4 x5 x6 hd hn I K
      have c16 := I.le (d := d) hd (by omega)
      refine R_iload_n (q := 91) (i := 2) rfl rfl rfl rfl ?_
      refine R_iconst (q := 92) rfl rfl ?_
      refine R_icmp_ge (q := 95) (tgt := 151) rfl rfl (by decide) (by omega) (by omega) (fun h92 => ?_) (fun h92 => ?_)
      · omega
      · refine R_iconst (q := 96) rfl rfl ?_
        refine R_istore_n (q := 97) (i := 3) rfl rfl rfl rfl ?_
        refine LP d (f (27 + 4 * d)).toNat 0 f _ _ _ I (by omega) (by omega) (by omega) (fun y3 => ?_)
        refine R_iinc (q := 148) rfl rfl rfl rfl ?_
        refine R_goto (q := 151) (tgt := 90) rfl rfl (by decide) ?_
        exact ih (d + 1) _ _ _ _ _ (by omega) (by omega) (dlD_Inv (d := d) (by omega) I).1 K
  have IA := (hA_Inv 3 (sh b (M 12)) (by omega) I0).1
  have hM : mr b M (sh b (M 12)) = M := mr_self b M
  have L9 := LO 3 (sh b (M 12)) none none none none (by omega) I0 (fun x2 x3 x4 x5 x6 => by
    refine R_iconst (q := 89) rfl rfl ?_
    refine R_istore_n (q := 90) (i := 2) rfl rfl rfl rfl ?_
    refine LQ 3 0 _ _ _ _ _ (by omega) (by omega) IA (fun x2 x3 => ?_)
    refine R_aload_n (q := 152) (i := 0) rfl rfl rfl rfl ?_
    refine R_getR (q := 155) rfl rfl rfl rfl rfl (by omega) ?_
    refine R_iload_n (q := 156) (i := 1) rfl rfl rfl rfl ?_
    refine R_bipush (q := 158) rfl rfl (by decide) ?_
    refine R_iadd (q := 159) rfl rfl ?_
    refine R_dup2 (q := 160) rfl rfl rfl rfl ?_
    refine R_iald (q := 161) (v := dB 3 0 (hA 3 (sh b (M 12))) 6) rfl rfl rfl (by omega) (by omega) (by first | exact rd12 (by omega) | exact rdmr (by omega)) ?_
    refine R_iconst (q := 162) rfl rfl ?_
    refine R_iadd (q := 163) rfl rfl ?_
    refine R_iast (q := 164) (M2 := mr b M (tn1 (sh b (M 12)))) rfl rfl rfl (by omega) (by omega) (by rw [tn1_eq]; exact upmr (by omega)) ?_
    refine R_vret rfl rfl ?_
    rw [← hfin]
    )
  rw [hM] at L9
  refine R_iconst (q := 1) rfl rfl ?_
  refine R_istore_n (q := 2) (i := 2) rfl rfl rfl rfl ?_
  exact L9
set_option maxRecDepth 100000 in
theorem mt_X7_turn1 : MtOK yX7_turn1 cX7_turn1 7 none 6 C_X7_turn1 := by
  refine mt_of sx_X7_turn1 (by decide +kernel) (Or.inr (Or.inr ⟨rfl, rfl, rfl⟩)) (by decide +kernel) fdX7_ok kLX7_ok kIX7_ok sgX7_ok ntX7_ok
    (all_cons (clokS mt_X7_deskAt (GT_at 555 (by decide +kernel) (by decide +kernel)) (GT_at 44 (by decide +kernel) (by decide +kernel)) (GT_at 557 (by decide +kernel) (by decide +kernel)) (by decide +kernel) (by decide) (GT_at 556 (by decide +kernel) (by decide +kernel))) (all_cons (clokV mt_X7_looks rfl (GT_at 729 (by decide +kernel) (by decide +kernel)) (GT_at 44 (by decide +kernel) (by decide +kernel)) (GT_at 732 (by decide +kernel) (by decide +kernel)) (by decide +kernel) (by decide) (GT_at 731 (by decide +kernel) (by decide +kernel)) (GT_at 29 (by decide +kernel) (by decide +kernel)) rfl rfl) (all_cons (clokS mt_X7_queueAt (GT_at 666 (by decide +kernel) (by decide +kernel)) (GT_at 44 (by decide +kernel) (by decide +kernel)) (GT_at 668 (by decide +kernel) (by decide +kernel)) (by decide +kernel) (by decide) (GT_at 667 (by decide +kernel) (by decide +kernel))) (all_cons (clokV mt_X7_takes rfl (GT_at 737 (by decide +kernel) (by decide +kernel)) (GT_at 44 (by decide +kernel) (by decide +kernel)) (GT_at 740 (by decide +kernel) (by decide +kernel)) (by decide +kernel) (by decide) (GT_at 739 (by decide +kernel) (by decide +kernel)) (GT_at 31 (by decide +kernel) (by decide +kernel)) rfl rfl) (all_nil))))) ?_ ?_
  · rintro as M - ⟨o, b, rfl, hp⟩
    exact Nat.le_of_ble_eq_true rfl
  · rintro L scr as M - ⟨o, b, rfl, hp⟩
    exact Runs.mono (fun x M' h _ _ e => by cases e; exact h) (ok_X7_turn1 L scr o b M hp)
abbrev C_X7_turnsBy : Ct := (3, true, fun as M => ∃ (o : Nat) (b : Int) (n : Int), as = [wR o, wI b, wI n] ∧ (o = 11 ∧ (0 ≤ b ∧ b ≤ 4634) ∧ Inv (sh b (M 12)) ∧ 0 ≤ n ∧ n ≤ 1000), fun as M x M' => ∀ (o : Nat) (b : Int) (n : Int), as = [wR o, wI b, wI n] → ((tnN n.toNat (sh b (M 12)) 8 + tnN n.toNat (sh b (M 12)) 9 - ((sh b (M 12)) 8 + (sh b (M 12)) 9)) = x ∧ (mr b M (tnN n.toNat (sh b (M 12)))) = M'))
def sx_X7_turnsBy : Sx := (tb_X7_turnsBy, fdX7, kLX7, kIX7, sgX7, ntX7, [(83, (7, C_X7_gone)), (86, (7, C_X7_turn1))], 1)
set_option maxRecDepth 100000 in
set_option maxHeartbeats 1000000 in
theorem ok_X7_turnsBy (L : Nat) (scr : Int → Int) (o : Nat) (b : Int) (n : Int) (M : Mem) (hp : o = 11 ∧ (0 ≤ b ∧ b ≤ 4634) ∧ Inv (sh b (M 12)) ∧ 0 ≤ n ∧ n ≤ 1000) : Runs sx_X7_turnsBy L (xcF scr) (fun x M' => (tnN n.toNat (sh b (M 12)) 8 + tnN n.toNat (sh b (M 12)) 9 - ((sh b (M 12)) 8 + (sh b (M 12)) 9)) = x ∧ (mr b M (tnN n.toNat (sh b (M 12)))) = M') 0 [wR o, wI b, wI n, none, none] [] M := by
  obtain ⟨rfl, h1, I0, h2⟩ := hp
  generalize hfin : (fun (x : Int) (M' : Mem) => (tnN n.toNat (sh b (M 12)) 8 + tnN n.toNat (sh b (M 12)) 9 - ((sh b (M 12)) 8 + (sh b (M 12)) 9)) = x ∧ (mr b M (tnN n.toNat (sh b (M 12)))) = M') = Qp
  have L1 : ∀ (m : Nat) (k : Int) (f : Int → Int), 0 ≤ k → k + m = n → Inv f → tnN m f = tnN n.toNat (sh b (M 12)) → Runs sx_X7_turnsBy L (xcF scr) Qp 9 [wR 11, wI b, wI n, wI ((sh b (M 12)) 8 + (sh b (M 12)) 9), wI k] [] (mr b M f) := by
    intro m
    induction m with
    | zero =>
      intro k f hk hm I e
      have e : f = tnN n.toNat (sh b (M 12)) := e
      refine R_iload (q := 11) rfl rfl rfl ?_
      refine R_iload_n (q := 12) (i := 2) rfl rfl rfl rfl ?_
      refine R_icmp_ge (q := 15) (tgt := 26) rfl rfl (by decide) (by omega) (by omega) (fun h12 => ?_) (fun h12 => ?_)
      · refine R_aload_n (q := 27) (i := 0) rfl rfl rfl rfl ?_
        refine R_iload_n (q := 28) (i := 1) rfl rfl rfl rfl ?_
        refine R_cV1I (q := 31) (ci := 7) (C := C_X7_gone) rfl rfl rfl rfl rfl ⟨_, _, rfl, ⟨rfl, h1⟩⟩ rfl rfl (by omega) (fun x M' hc => ?_)
        replace hc := hc _ _ rfl
        obtain ⟨hx, rfl⟩ := hc
        rw [sh_mr] at hx
        subst hx
        refine R_iload_n (q := 32) (i := 3) rfl rfl rfl rfl ?_
        refine R_isub (q := 33) rfl rfl ?_
        refine R_ret rfl (Or.inl rfl) ?_
        rw [← hfin, ← e]
        exact ⟨rfl, rfl⟩
      · omega
    | succ m ih =>
      intro k f hk hm I e
      refine R_iload (q := 11) rfl rfl rfl ?_
      refine R_iload_n (q := 12) (i := 2) rfl rfl rfl rfl ?_
      refine R_icmp_ge (q := 15) (tgt := 26) rfl rfl (by decide) (by omega) (by omega) (fun h12 => ?_) (fun h12 => ?_)
      · omega
      · refine R_aload_n (q := 16) (i := 0) rfl rfl rfl rfl ?_
        refine R_iload_n (q := 17) (i := 1) rfl rfl rfl rfl ?_
        refine R_cV1N (q := 20) (ci := 7) (C := C_X7_turn1) rfl rfl rfl rfl rfl ⟨_, _, rfl, ⟨rfl, h1, by simp only [sh_mr]; exact I⟩⟩ rfl rfl (by omega) (fun M' hc => ?_)
        replace hc := hc _ _ rfl
        try simp only [sh_mr, mr_mr] at hc
        subst hc
        refine R_iinc (q := 23) rfl rfl rfl rfl ?_
        refine R_goto (q := 26) (tgt := 9) rfl rfl (by decide) ?_
        exact ih (k + 1) (tn1 f) (by omega) (by omega) (tn1_Inv I).1 e
  have hM : mr b M (sh b (M 12)) = M := mr_self b M
  have L9 := L1 n.toNat 0 (sh b (M 12)) (by omega) (by omega) I0 rfl
  rw [hM] at L9
  refine R_aload_n (q := 1) (i := 0) rfl rfl rfl rfl ?_
  refine R_iload_n (q := 2) (i := 1) rfl rfl rfl rfl ?_
  refine R_cV1I (q := 5) (ci := 7) (C := C_X7_gone) rfl rfl rfl rfl rfl ⟨_, _, rfl, ⟨rfl, h1⟩⟩ rfl rfl (by omega) (fun x M' hc => ?_)
  replace hc := hc _ _ rfl
  try simp only [sh_mr, mr_mr] at hc
  obtain ⟨rfl, rfl⟩ := hc
  refine R_istore_n (q := 6) (i := 3) rfl rfl rfl rfl ?_
  refine R_iconst (q := 7) rfl rfl ?_
  refine R_istore (q := 9) rfl rfl rfl ?_
  exact L9
set_option maxRecDepth 100000 in
theorem mt_X7_turnsBy : MtOK yX7_turnsBy cX7_turnsBy 5 (some .int) 7 C_X7_turnsBy := by
  refine mt_of sx_X7_turnsBy (by decide +kernel) (Or.inl ⟨rfl, rfl, rfl⟩) (by decide +kernel) fdX7_ok kLX7_ok kIX7_ok sgX7_ok ntX7_ok
    (all_cons (clokV mt_X7_gone rfl (GT_at 721 (by decide +kernel) (by decide +kernel)) (GT_at 44 (by decide +kernel) (by decide +kernel)) (GT_at 724 (by decide +kernel) (by decide +kernel)) (by decide +kernel) (by decide) (GT_at 723 (by decide +kernel) (by decide +kernel)) (GT_at 27 (by decide +kernel) (by decide +kernel)) rfl rfl) (all_cons (clokV mt_X7_turn1 rfl (GT_at 725 (by decide +kernel) (by decide +kernel)) (GT_at 44 (by decide +kernel) (by decide +kernel)) (GT_at 728 (by decide +kernel) (by decide +kernel)) (by decide +kernel) (by decide) (GT_at 727 (by decide +kernel) (by decide +kernel)) (GT_at 28 (by decide +kernel) (by decide +kernel)) rfl rfl) (all_nil))) ?_ ?_
  · rintro as M - ⟨o, b, n, rfl, hp⟩
    exact Nat.le_of_ble_eq_true rfl
  · rintro L scr as M - ⟨o, b, n, rfl, hp⟩
    exact Runs.mono (fun x M' h _ _ _ e => by cases e; exact h) (ok_X7_turnsBy L scr o b n M hp)
