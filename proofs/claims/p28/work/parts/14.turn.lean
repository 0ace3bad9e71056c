/-- the places that no turn changes, but the turns' own -/
def Kp (j : Int) : Prop := (0 ≤ j ∧ j ≤ 5) ∨ j = 7 ∨ j = 10 ∨ (15 ≤ j ∧ j < 26) ∨ j = 26 ∨ j = 30 ∨ j = 34 ∨ (86 ≤ j ∧ j < 662 ∧ ((j - 86) % 9 < 4 ∨ (j - 86) % 9 = 6)) ∨ j < 0 ∨ 662 ≤ j
theorem lkg_k {f : Int → Int} {d j : Int} (hd : 0 ≤ d ∧ d < 3) (hn : 1 ≤ f (27 + 4 * d)) (I : Inv f) (hj : Kp j ∨ j = 6) : lkg f d j = f j := by
  have hle := fun e a b => I.le (d := e) a b
  have m16 := (hle d hd.1 hd.2).2
  obtain ⟨iB, i7, iC, i16, iD, -⟩ := id I
  have q0 := iD d 0 ⟨hd.1, hd.2, by omega, by omega⟩
  rw [Int.add_zero] at q0
  obtain ⟨q, hq⟩ : ∃ q, q = f (38 + 16 * d) := ⟨_, rfl⟩
  rw [← hq] at q0
  unfold Kp at hj
  have e0 : rmv (lkd f d) d 0 j = f j := rl_o hd m16 (by omega) (by omega) (by omega)
  unfold lkg
  rw [← hq]
  split
  · rw [pss_o (by omega) (by omega) (by omega) (by omega), e0]
  · split
    · rw [pss_o (by omega) (by omega) (by omega) (by omega), tks_o (by omega) (by omega), e0]
    · split
      · unfold opn
        rw [pss_o (by omega) (by omega) (by omega) (by omega), us_n (by omega), us_n (by omega), us_n (by omega), us_n (by omega), e0]
      · rename_i h1 h2 h3
        have y31 := hle (d + 1) (by omega) (by omega)
        have e31 : rmv (lkd f d) d 0 (27 + 4 * (d + 1)) = f (27 + 4 * (d + 1)) := rl_o hd m16 (by omega) (by omega) (by omega)
        have sm : f (27 + 4 * (d + 1)) < 16 := by
          have c0 := (iC 0 (by omega) (by omega)).2.2
          have c1 := (iC 1 (by omega) (by omega)).2.2
          have c2 := (iC 2 (by omega) (by omega)).2.2
          have m0 : f (27 + 4 * 0) = f 27 := rfl
          have m1 : f (27 + 4 * 1) = f 31 := rfl
          have m2 : f (27 + 4 * 2) = f 35 := rfl
          have : d = 0 ∨ d = 1 := by omega
          rcases this with rfl | rfl
          · show f (27 + 4 * 1) < 16
            omega
          · show f (27 + 4 * 2) < 16
            omega
        unfold jn
        rw [us_n (by omega), us_n (by omega), us_n (by rw [e31]; omega), e0]
theorem lk_pre {f : Int → Int} {d o : Int} (hd : 0 ≤ d ∧ d < 3) (hn : 1 ≤ f (27 + 4 * d)) (I : Inv f) (ho : 0 ≤ o ∧ o ≤ 64) :
    Bd f ∧ (1 ≤ f (27 + 4 * d) ∧ f (27 + 4 * d) ≤ 16) ∧ (0 ≤ f (38 + 16 * d) ∧ f (38 + 16 * d) < 64) ∧ (d < 2 → 0 ≤ f (31 + 4 * d) ∧ f (31 + 4 * d) < 16) ∧ f (93 + 9 * f (38 + 16 * d)) = 0 ∧ (0 ≤ f 9 ∧ f 9 ≤ 64) ∧ 0 ≤ o ∧ o ≤ 64 := by
  have hle := fun e a b => I.le (d := e) a b
  obtain ⟨iB, i7, iC, i16, iD, iE, iF, g8, g9, -⟩ := id I
  have q0 := iD d 0 ⟨hd.1, hd.2, by omega, by omega⟩
  rw [Int.add_zero] at q0
  have b9 := cF_bd f 2 (f 7).toNat
  refine ⟨iB, ⟨hn, (hle d hd.1 hd.2).2⟩, ⟨q0.1, by omega⟩, fun h => ?_, ((iF _ q0.1 q0.2.1).2.2 q0.2.2).1, by omega, ho.1, ho.2⟩
  have c0 := (iC 0 (by omega) (by omega)).2.2
  have c1 := (iC 1 (by omega) (by omega)).2.2
  have c2 := (iC 2 (by omega) (by omega)).2.2
  have m0 : f (27 + 4 * 0) = f 27 := rfl
  have m1 : f (27 + 4 * 1) = f 31 := rfl
  have m2 : f (27 + 4 * 2) = f 35 := rfl
  have : d = 0 ∨ d = 1 := by omega
  rcases this with rfl | rfl
  · show 0 ≤ f 31 ∧ f 31 < 16
    omega
  · show 0 ≤ f 35 ∧ f 35 < 16
    omega
theorem hnd_z {f : Int → Int} {d o : Int} {n : Nat} (h : f (27 + 4 * d) ≤ 0) : hnd d o (n + 1) f = f := if_pos h
theorem hnd_s {f : Int → Int} {d o : Int} {n : Nat} (h : ¬ f (27 + 4 * d) ≤ 0) (h2 : lkS f d o) : hnd d o (n + 1) f = lkd f d := (if_neg h).trans (if_pos h2)
theorem hnd_g {f : Int → Int} {d o : Int} {n : Nat} (h : ¬ f (27 + 4 * d) ≤ 0) (h2 : ¬ lkS f d o) : hnd d o (n + 1) f = hnd d o n (lkg f d) := (if_neg h).trans (if_neg h2)
theorem hnd_Inv {d o : Int} (hd : 0 ≤ d ∧ d < 3) : ∀ (n : Nat) (f : Int → Int), Inv f → Inv (hnd d o n f) ∧ ∀ j, Kp j ∨ j = 6 → hnd d o n f j = f j
  | 0, f, I => ⟨I, fun _ _ => rfl⟩
  | n + 1, f, I => by
    by_cases h : f (27 + 4 * d) ≤ 0
    · rw [hnd_z h]
      exact ⟨I, fun _ _ => rfl⟩
    · by_cases h2 : lkS f d o
      · rw [hnd_s h h2]
        exact ⟨lkd_Inv hd I, fun j hj => lkd_o (by unfold Kp at hj; omega)⟩
      · rw [hnd_g h h2]
        obtain ⟨a, b⟩ := hnd_Inv hd n (lkg f d) (lkg_Inv (o := o) hd (by omega) I h2)
        exact ⟨a, fun j hj => (b j hj).trans (lkg_k hd (by omega) I hj)⟩
theorem dly_Inv {d : Int} (hd : 0 ≤ d ∧ d < 3) : ∀ (n : Nat) (p : Int) (f : Int → Int), Inv f → 0 ≤ p → p + n ≤ f (27 + 4 * d) → Inv (dly d n p f) ∧ (∀ j, Kp j ∨ j = 6 ∨ j = 8 ∨ j = 9 ∨ (26 ≤ j ∧ j < 86) → dly d n p f j = f j)
  | 0, p, f, I, _, _ => ⟨I, fun _ _ => rfl⟩
  | n + 1, p, f, I, h0, h1 => by
    have q0 := I.2.2.2.2.1 d p ⟨hd.1, hd.2, h0, by omega⟩
    have i7 := I.2.1
    obtain ⟨a, b⟩ := dly_Inv hd n (p + 1) (tks f (f (38 + 16 * d + p)) (f 3) 13) (tks_Inv q0.1 (by omega) I) (by omega) (by rw [tks_o (by omega) (by omega)]; omega)
    refine ⟨a, fun j hj => (b j hj).trans (tks_o ?_ ?_)⟩
    · unfold Kp at hj
      omega
    · unfold Kp at hj
      omega
theorem dlD_Inv {d : Int} (hd : 0 ≤ d ∧ d < 3) {f : Int → Int} (I : Inv f) : Inv (dlD f d) ∧ (∀ j, Kp j ∨ j = 6 ∨ j = 8 ∨ j = 9 ∨ (26 ≤ j ∧ j < 86) → dlD f d j = f j) := by
  have := (I.le (d := d) hd.1 hd.2).1
  exact dly_Inv hd _ 0 f I (by omega) (by omega)
def hA : Nat → (Int → Int) → (Int → Int)
  | 0, f => f
  | n + 1, f => hA n (hnD f (n : Int))
def dB : Nat → Int → (Int → Int) → (Int → Int)
  | 0, _, f => f
  | n + 1, d, f => dB n (d + 1) (dlD f d)
theorem hA_Inv : ∀ (n : Nat) (f : Int → Int), n ≤ 3 → Inv f → Inv (hA n f) ∧ ∀ j, Kp j ∨ j = 6 → hA n f j = f j
  | 0, f, _, I => ⟨I, fun _ _ => rfl⟩
  | n + 1, f, h, I => by
    obtain ⟨a, b⟩ := hnd_Inv (d := n) (o := f 9) (by omega) (f (26 + 4 * (n : Int))).toNat f I
    obtain ⟨c, e⟩ := hA_Inv n _ (by omega) a
    exact ⟨c, fun j hj => (e j hj).trans (b j hj)⟩
theorem dB_Inv : ∀ (n : Nat) (d : Int) (f : Int → Int), 0 ≤ d → d + n ≤ 3 → Inv f → Inv (dB n d f) ∧ ∀ j, Kp j ∨ j = 6 ∨ j = 8 ∨ j = 9 ∨ (26 ≤ j ∧ j < 86) → dB n d f j = f j
  | 0, d, f, _, _, I => ⟨I, fun _ _ => rfl⟩
  | n + 1, d, f, h0, h, I => by
    obtain ⟨a, b⟩ := dlD_Inv (d := d) (by omega) I
    obtain ⟨c, e⟩ := dB_Inv n (d + 1) _ (by omega) (by omega) a
    exact ⟨c, fun j hj => (e j hj).trans (b j hj)⟩
theorem tn1_eq (f : Int → Int) : tn1 f = us (dB 3 0 (hA 3 f)) 6 (dB 3 0 (hA 3 f) 6 + 1) := tn1_def f
theorem tn1_Inv {f : Int → Int} (I : Inv f) : Inv (tn1 f) ∧ (∀ j, Kp j → tn1 f j = f j) ∧ tn1 f 6 = f 6 + 1 := by
  obtain ⟨a, b⟩ := hA_Inv 3 f (by omega) I
  obtain ⟨c, e⟩ := dB_Inv 3 0 (hA 3 f) (by omega) (by omega) a
  have e6 : dB 3 0 (hA 3 f) 6 = f 6 := (e 6 (by omega)).trans (b 6 (by omega))
  rw [tn1_eq, e6]
  have i6 := I.2.1
  refine ⟨Inv_same c (by rw [us_s]; omega) (fun j _ _ h => us_n h) (fun j _ _ => us_n (by omega)) (fun t _ _ => ⟨us_n (by omega), us_n (by omega)⟩) (fun j _ _ => us_n (by omega)) (fun t _ _ => ⟨us_n (by omega), us_n (by omega), us_n (by omega), us_n (by omega), us_n (by omega), us_n (by omega)⟩), fun j hj => ?_, us_s⟩
  rw [us_n (by unfold Kp at hj; omega), e j (Or.inl hj), b j (Or.inl hj)]
theorem tnN_Inv : ∀ (n : Nat) (f : Int → Int), Inv f → Inv (tnN n f) ∧ (∀ j, Kp j → tnN n f j = f j) ∧ tnN n f 6 = f 6 + n
  | 0, f, I => ⟨I, fun _ _ => rfl, by show f 6 = f 6 + 0; omega⟩
  | n + 1, f, I => by
    obtain ⟨a, b, c⟩ := tn1_Inv I
    obtain ⟨d, e, g⟩ := tnN_Inv n _ a
    refine ⟨d, fun j hj => (e j hj).trans (b j hj), ?_⟩
    show tnN n (tn1 f) 6 = _
    rw [g, c]
    omega
abbrev C_X7_gone : Ct := (2, true, fun as M => ∃ (o : Nat) (b : Int), as = [wR o, wI b] ∧ (o = 11 ∧ (0 ≤ b ∧ b ≤ 4634)), fun as M x M' => ∀ (o : Nat) (b : Int), as = [wR o, wI b] → (((sh b (M 12)) 8 + (sh b (M 12)) 9) = x ∧ (M) = M'))
abbrev C_X7_turn1 : Ct := (2, false, fun as M => ∃ (o : Nat) (b : Int), as = [wR o, wI b] ∧ (o = 11 ∧ (0 ≤ b ∧ b ≤ 4634) ∧ Inv (sh b (M 12))), fun as M x M' => ∀ (o : Nat) (b : Int), as = [wR o, wI b] → ((mr b M (tn1 (sh b (M 12)))) = M'))
abbrev C_X7_turnsBy : Ct := (3, true, fun as M => ∃ (o : Nat) (b : Int) (n : Int), as = [wR o, wI b, wI n] ∧ (o = 11 ∧ (0 ≤ b ∧ b ≤ 4634) ∧ Inv (sh b (M 12)) ∧ 0 ≤ n ∧ n ≤ 1000), fun as M x M' => ∀ (o : Nat) (b : Int) (n : Int), as = [wR o, wI b, wI n] → ((tnN n.toNat (sh b (M 12)) 8 + tnN n.toNat (sh b (M 12)) 9 - ((sh b (M 12)) 8 + (sh b (M 12)) 9)) = x ∧ (mr b M (tnN n.toNat (sh b (M 12)))) = M'))
