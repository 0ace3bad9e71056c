/-! LEVEL 2: the class's methods, by what they answer and what they do to the row and its history -/
def arS (M M' : Mem) : Prop := ∀ r, 191 ≤ r → r ≤ 193 → M' r = M r
/-- nothing is told otherwise -/
def Sme (M M' : Mem) : Prop := GI M' ∧ (∀ r, (r ≤ 2 ∨ 11 ≤ r) → r ≤ 14 → M' r = M r) ∧ arS M M'
/-- a change: the row is g then -/
def Chd (M M' : Mem) (g : Int → Int) : Prop := GI M' ∧ Chg M M' g ∧ arS M M'
/-- only the pad is another -/
def PadS (M M' : Mem) : Prop := GI M' ∧ M' 12 = M 12 ∧ M' 11 1 = M 11 1 ∧ (∀ j, hs M' j = hs M j) ∧ arS M M'
def mx (M M' : Mem) : Mem := fun r => if 191 ≤ r then M r else M' r
theorem mx_lo {M M' : Mem} {r : Nat} (h : r < 191) : mx M M' r = M' r := if_neg (by omega)
theorem mx_hi {M M' : Mem} {r : Nat} (h : 191 ≤ r) : mx M M' r = M r := if_pos h
theorem mx_r (M M' : Mem) : ∀ r, rOK r → mx M M' r = M' r := fun r h => mx_lo (by unfold rOK at h; omega)
theorem mx_a (M M' : Mem) : arS M (mx M M') := fun r a _ => mx_hi a
theorem hs_mx (M M' : Mem) (j : Int) : hs (mx M M') j = hs M' j := hs_e (M := M') (N := mx M M') (fun r z => mx_lo (by omega)) j
theorem GI_co {M N : Mem} (g : GI M) (h : ∀ r, r < 191 → N r = M r) : GI N := by
  obtain ⟨⟨c1, c2, c3, c4, c5, c6, c7⟩, r1, r2, r3, r4, r5, r6⟩ := g
  have e4 := h 4 (by omega)
  have e8 := h 8 (by omega)
  have e9 := h 9 (by omega)
  have e11 := h 11 (by omega)
  have e12 := h 12 (by omega)
  have e14 := h 14 (by omega)
  have eh := fun j => hs_e (M := M) (N := N) (fun r z => h r (by omega)) j
  refine ⟨⟨by rw [e12]; exact c1.off (fun r a b => h r (by omega)), by rw [e4]; exact c2, by rw [e4, e11]; exact c3, fun j a b => ?_, trivial, by rw [e8, e11]; exact c6, by rw [e9, e14, e11]; exact c7⟩, by rw [e12]; exact r1, by rw [e11]; exact r2, fun j a b => ?_, trivial, ?_⟩
  · rw [e11] at b
    have hr := ring_b M (j - 1)
    rw [ring_e (congrFun e4 1), eh]
    exact (c4 j a b).off (fun r _ _ => h r (by omega))
  · rw [e11] at b
    rw [eh]
    exact r3 j a b
  · unfold PdM
    rw [e11, e14]
    exact ⟨r5, r6⟩
theorem obs_of {C : Ct} {as : List PV} {M M' : Mem} {x v : Int} (hB : Bo C as M M' x) (hv : C.2.2.2 as M' v M') : x = v ∧ Sme M (mx M M') := by
  obtain ⟨h1, h2⟩ := hB
  obtain ⟨e, g⟩ := h2 v M' hv
  exact ⟨e, GI_co g (fun r h => mx_lo h), fun r a b => (mx_lo (by omega)).trans (h1 r a b), mx_a M M'⟩
theorem bo_e {C : Ct} {as : List PV} {M M' : Mem} {x : Int} (hB : Bo C as M M' x) : M' 12 = M 12 ∧ M' 11 = M 11 ∧ M' 14 = M 14 ∧ ∀ j, hs M' j = hs M j := ⟨hB.1 12 (by omega) (by omega), hB.1 11 (by omega) (by omega), hB.1 14 (by omega) (by omega), fun j => hs_e (fun r z => hB.1 r (by omega) (by omega)) j⟩
theorem chd_of {C : Ct} {as : List PV} {M M' N : Mem} {x v : Int} {g : Int → Int} (hB : Bo C as M M' x) (hv : C.2.2.2 as M' v N) (hc : Chg M' N g) : x = v ∧ Chd M (mx M N) g := by
  obtain ⟨e12, e11, -, eh⟩ := bo_e hB
  obtain ⟨e, gi⟩ := hB.2 v N hv
  obtain ⟨q1, q2, q3⟩ := hc
  refine ⟨e, GI_co gi (fun r h => mx_lo h), ⟨(mx_lo (by omega)).trans q1, ?_, fun j a b => ?_⟩, mx_a M N⟩
  · rw [mx_lo (by omega), q2, e11]
  · rw [mx_lo (by omega)] at b ⊢
    rw [hs_mx, q3 j a b, e12, e11, eh, eh]
/-- the reference's own outcome of a change -/
def nsz (M : Mem) : Int := if M 11 1 = 4 then 4 else M 11 1 + 1
def hj_ (r : Nat) : Int := if r = 13 then 4 else (r : Int) + 1
def chgM (M : Mem) (g : Int → Int) : Mem := fun r => if r = 12 then g else if r = 11 then us (M 11) 1 (nsz M) else if r ≤ 2 ∨ r = 13 then (if hj_ r = nsz M then M 12 else if M 11 1 = 4 then hs M (hj_ r + 1) else M r) else M r
theorem chg_ok {M : Mem} {g : Int → Int} (h : 0 ≤ M 11 1 ∧ M 11 1 ≤ 4) : Chg M (chgM M g) g ∧ Fr M (chgM M g) ∧ (∀ k, k ≠ 1 → chgM M g 11 k = M 11 k) ∧ ∀ r, rOK r → chgM M g r = M r := by
  have e11 : chgM M g 11 = us (M 11) 1 (nsz M) := by
    unfold chgM
    rw [if_neg (by omega), if_pos rfl]
  have hn : nsz M = (if M 11 1 = 4 then 4 else M 11 1 + 1) := rfl
  have hr : ∀ r, r ≤ 2 ∨ r = 13 → chgM M g r = (if hj_ r = nsz M then M 12 else if M 11 1 = 4 then hs M (hj_ r + 1) else M r) := fun r z => by
    unfold chgM
    rw [if_neg (by omega), if_neg (by omega), if_pos z]
  refine ⟨⟨if_pos rfl, by rw [e11, us_s, hn], fun j a b => ?_⟩, fun r a b c d => ?_, fun k z => by rw [e11, us_n z], fun r z => ?_⟩
  · rw [e11, us_s] at b ⊢
    have n4 : nsz M ≤ 4 := by rw [hn]; split <;> omega
    have hh : hj_ (hc_ j) = j := by
      have : j = 1 ∨ j = 2 ∨ j = 3 ∨ j = 4 := by omega
      rcases this with rfl | rfl | rfl | rfl <;> rfl
    show chgM M g (hc_ j) = _
    rw [hr _ (hc_r j), hh]
    rfl
  · unfold chgM
    rw [if_neg c, if_neg b, if_neg (by omega)]
  · unfold rOK at z
    unfold chgM
    rw [if_neg (by omega), if_neg (by omega), if_neg (by omega)]
theorem chg_r {M N : Mem} (h : ∀ r, rOK r → N r = M r) (M0 : Mem) : ∀ r, rOK r → mx M0 N r = M r := fun r z => (mx_r M0 N r z).trans (h r z)

abbrev D_count : Ct := (2, true, fun as M => ∃ (w : Int), as = [wR 3, wI w] ∧ (GI M ∧ inr w), fun as M x M' => ∀ (w : Int), as = [wR 3, wI w] → (x = cnV M (M 12) w ∧ Sme M M'))
theorem der_count : Der C_X6_count D_count := by
  rintro as M ⟨w, rfl, hp⟩
  have close : ∀ (M' M2 : Mem) (x : Int), (∀ r, rOK r → M2 r = M' r) → arS M M2 → ((x = cnV M (M 12) w ∧ Sme M M2)) → ∃ M2 : Mem, (∀ r, rOK r → M2 r = M' r) ∧ (∀ r, 191 ≤ r → r ≤ 193 → M2 r = M r) ∧ D_count.2.2.2 [wR 3, wI w] M x M2 := fun M' M2 x a b c => ⟨M2, a, b, fun _ z => by cases z; exact c⟩
  refine ⟨M, fun _ _ => rfl, ⟨3, w, rfl, rfl, hp.1, hp.2⟩, fun x M' hx => ?_⟩
  have hB := hx 3 w rfl
  obtain ⟨e12, e11, e14, eh⟩ := bo_e hB
  obtain ⟨a, b⟩ := obs_of (v := cnV M (M 12) w) hB (by
    intro o w' z
    cases z
    refine ⟨?_, rfl⟩
    rw [e12]
    unfold cnV
    rw [e11])
  exact close M' (mx M M') x (mx_r M M') (mx_a M M') ⟨a, b⟩
abbrev D_pieces : Ct := (4, true, fun as M => ∃ (t : Int) (w : Int) (k : Int), as = [wR 3, wI t, wI w, wI k] ∧ (GI M ∧ hasT (M 12) t ∧ (0 ≤ w ∧ w < 3) ∧ 0 ≤ k ∧ k < 6), fun as M x M' => ∀ (t : Int) (w : Int) (k : Int), as = [wR 3, wI t, wI w, wI k] → (x = dig (M 12 (87 + 9 * t + w)) k ∧ Sme M M'))
theorem der_pieces : Der C_X6_pieces D_pieces := by
  rintro as M ⟨t, w, k, rfl, hp⟩
  have close : ∀ (M' M2 : Mem) (x : Int), (∀ r, rOK r → M2 r = M' r) → arS M M2 → ((x = dig (M 12 (87 + 9 * t + w)) k ∧ Sme M M2)) → ∃ M2 : Mem, (∀ r, rOK r → M2 r = M' r) ∧ (∀ r, 191 ≤ r → r ≤ 193 → M2 r = M r) ∧ D_pieces.2.2.2 [wR 3, wI t, wI w, wI k] M x M2 := fun M' M2 x a b c => ⟨M2, a, b, fun _ _ _ z => by cases z; exact c⟩
  have hT := hp.2.1
  have i7 := hp.1.2.1.1.i7
  refine ⟨M, fun _ _ => rfl, ⟨3, t, w, k, rfl, rfl, hp.1, by unfold hasT at hT; omega, by omega, by omega⟩, fun x M' hx => ?_⟩
  have hB := hx 3 t w k rfl
  obtain ⟨e12, e11, e14, eh⟩ := bo_e hB
  obtain ⟨a, b⟩ := obs_of (v := dig (M 12 (87 + 9 * t + w)) k) hB (by
    intro o t' w' k' z
    cases z
    refine ⟨rfl, Or.inr ⟨?_, Or.inl ⟨hp.2.2.1, ?_⟩⟩⟩
    · rw [e12]
      exact ⟨hT, hp.2.2.2⟩
    · rw [e12])
  exact close M' (mx M M') x (mx_r M M') (mx_a M M') ⟨a, b⟩
abbrev D_alike : Ct := (3, true, fun as M => ∃ (t : Int) (w : Int), as = [wR 3, wI t, wI w] ∧ (GI M ∧ hasT (M 12) t ∧ (w = 0 ∨ w = 1)), fun as M x M' => ∀ (t : Int) (w : Int), as = [wR 3, wI t, wI w] → (x = bt_ (msk (M 12) t = 0) 1 ∧ Sme M M'))
theorem der_alike : Der C_X6_alike D_alike := by
  rintro as M ⟨t, w, rfl, hp⟩
  have close : ∀ (M' M2 : Mem) (x : Int), (∀ r, rOK r → M2 r = M' r) → arS M M2 → ((x = bt_ (msk (M 12) t = 0) 1 ∧ Sme M M2)) → ∃ M2 : Mem, (∀ r, rOK r → M2 r = M' r) ∧ (∀ r, 191 ≤ r → r ≤ 193 → M2 r = M r) ∧ D_alike.2.2.2 [wR 3, wI t, wI w] M x M2 := fun M' M2 x a b c => ⟨M2, a, b, fun _ _ z => by cases z; exact c⟩
  have hT := hp.2.1
  have i7 := hp.1.2.1.1.i7
  refine ⟨M, fun _ _ => rfl, ⟨3, t, w, rfl, rfl, hp.1, by unfold hasT at hT; omega, by omega⟩, fun x M' hx => ?_⟩
  have hB := hx 3 t w rfl
  obtain ⟨e12, e11, e14, eh⟩ := bo_e hB
  obtain ⟨a, b⟩ := obs_of (v := bt_ (msk (M 12) t = 0) 1) hB (by
    intro o t' w' z
    cases z
    rw [e12]
    exact ⟨rfl, Or.inr (Or.inl ⟨hT, hp.2.2, rfl⟩)⟩)
  exact close M' (mx M M') x (mx_r M M') (mx_a M M') ⟨a, b⟩
def dkV (f : Int → Int) (d w : Int) : Int := if w = 0 then f (26 + 4 * d) else if w = 1 then f (27 + 4 * d) else if w = 2 then sdD f d else if w = 3 then f (28 + 4 * d) else f (29 + 4 * d)
abbrev D_desk : Ct := (3, true, fun as M => ∃ (d : Int) (w : Int), as = [wR 3, wI d, wI w] ∧ (GI M ∧ (0 ≤ d ∧ d < 3) ∧ 0 ≤ w ∧ w ≤ 4), fun as M x M' => ∀ (d : Int) (w : Int), as = [wR 3, wI d, wI w] → (x = dkV (M 12) d w ∧ Sme M M'))
theorem der_desk : Der C_X6_desk D_desk := by
  rintro as M ⟨d, w, rfl, hp⟩
  have close : ∀ (M' M2 : Mem) (x : Int), (∀ r, rOK r → M2 r = M' r) → arS M M2 → ((x = dkV (M 12) d w ∧ Sme M M2)) → ∃ M2 : Mem, (∀ r, rOK r → M2 r = M' r) ∧ (∀ r, 191 ≤ r → r ≤ 193 → M2 r = M r) ∧ D_desk.2.2.2 [wR 3, wI d, wI w] M x M2 := fun M' M2 x a b c => ⟨M2, a, b, fun _ _ z => by cases z; exact c⟩
  refine ⟨M, fun _ _ => rfl, ⟨3, d, w, rfl, rfl, hp.1, by omega, by omega⟩, fun x M' hx => ?_⟩
  have hB := hx 3 d w rfl
  obtain ⟨e12, e11, e14, eh⟩ := bo_e hB
  obtain ⟨a, b⟩ := obs_of (v := dkV (M 12) d w) hB (by
    intro o d' w' z
    cases z
    rw [e12]
    refine ⟨rfl, Or.inr ⟨hp.2.1, ?_⟩⟩
    unfold dkV
    rcases (show w = 0 ∨ w = 1 ∨ w = 2 ∨ w = 3 ∨ w = 4 by omega) with rfl | rfl | rfl | rfl | rfl
    · exact Or.inl ⟨rfl, rfl⟩
    · exact Or.inr (Or.inl ⟨rfl, rfl⟩)
    · exact Or.inr (Or.inr (Or.inl ⟨rfl, rfl⟩))
    · exact Or.inr (Or.inr (Or.inr (Or.inl ⟨rfl, rfl⟩)))
    · exact Or.inr (Or.inr (Or.inr (Or.inr (Or.inl ⟨rfl, rfl⟩)))))
  exact close M' (mx M M') x (mx_r M M') (mx_a M M') ⟨a, b⟩
abbrev D_mostDoubted : Ct := (1, true, fun as M => as = [wR 3] ∧ (GI M), fun as M x M' => as = [wR 3] → (x = mdb (M 12) (M 12 7).toNat ∧ Sme M M'))
theorem der_mostDoubted : Der C_X6_mostDoubted D_mostDoubted := by
  rintro as M ⟨rfl, hp⟩
  have close : ∀ (M' M2 : Mem) (x : Int), (∀ r, rOK r → M2 r = M' r) → arS M M2 → ((x = mdb (M 12) (M 12 7).toNat ∧ Sme M M2)) → ∃ M2 : Mem, (∀ r, rOK r → M2 r = M' r) ∧ (∀ r, 191 ≤ r → r ≤ 193 → M2 r = M r) ∧ D_mostDoubted.2.2.2 [wR 3] M x M2 := fun M' M2 x a b c => ⟨M2, a, b, fun z => by cases z; exact c⟩
  refine ⟨M, fun _ _ => rfl, ⟨3, rfl, rfl, hp⟩, fun x M' hx => ?_⟩
  have hB := hx 3  rfl
  obtain ⟨e12, e11, e14, eh⟩ := bo_e hB
  obtain ⟨a, b⟩ := obs_of (v := mdb (M 12) (M 12 7).toNat) hB (by
    intro o z
    cases z
    rw [e12]
    exact ⟨rfl, rfl⟩)
  exact close M' (mx M M') x (mx_r M M') (mx_a M M') ⟨a, b⟩
abbrev D_ifTurned : Ct := (3, true, fun as M => ∃ (n : Int) (w : Int), as = [wR 3, wI n, wI w] ∧ (GI M ∧ itOK n w), fun as M x M' => ∀ (n : Int) (w : Int), as = [wR 3, wI n, wI w] → (x = itV n w (M 12) ∧ Sme M M'))
theorem der_ifTurned : Der C_X6_ifTurned D_ifTurned := by
  rintro as M ⟨n, w, rfl, hp⟩
  have close : ∀ (M' M2 : Mem) (x : Int), (∀ r, rOK r → M2 r = M' r) → arS M M2 → ((x = itV n w (M 12) ∧ Sme M M2)) → ∃ M2 : Mem, (∀ r, rOK r → M2 r = M' r) ∧ (∀ r, 191 ≤ r → r ≤ 193 → M2 r = M r) ∧ D_ifTurned.2.2.2 [wR 3, wI n, wI w] M x M2 := fun M' M2 x a b c => ⟨M2, a, b, fun _ _ z => by cases z; exact c⟩
  have hT := hp.2
  unfold itOK at hT
  refine ⟨M, fun _ _ => rfl, ⟨3, n, w, rfl, rfl, hp.1, by omega, by omega⟩, fun x M' hx => ?_⟩
  have hB := hx 3 n w rfl
  obtain ⟨e12, e11, e14, eh⟩ := bo_e hB
  obtain ⟨a, b⟩ := obs_of (v := itV n w (M 12)) hB (by
    intro o n' w' z
    cases z
    refine Or.inr ⟨hp.2, ?_, rfl⟩
    show itV n w (M 12) = itV n w (M' 12)
    rw [e12])
  exact close M' (mx M M') x (mx_r M M') (mx_a M M') ⟨a, b⟩
abbrev D_bestHand : Ct := (1, true, fun as M => as = [wR 3] ∧ (GI M), fun as M x M' => as = [wR 3] → (x = (bhP (M 12) 3).1 ∧ Sme M M'))
theorem der_bestHand : Der C_X6_bestHand D_bestHand := by
  rintro as M ⟨rfl, hp⟩
  have close : ∀ (M' M2 : Mem) (x : Int), (∀ r, rOK r → M2 r = M' r) → arS M M2 → ((x = (bhP (M 12) 3).1 ∧ Sme M M2)) → ∃ M2 : Mem, (∀ r, rOK r → M2 r = M' r) ∧ (∀ r, 191 ≤ r → r ≤ 193 → M2 r = M r) ∧ D_bestHand.2.2.2 [wR 3] M x M2 := fun M' M2 x a b c => ⟨M2, a, b, fun z => by cases z; exact c⟩
  refine ⟨M, fun _ _ => rfl, ⟨3, rfl, rfl, hp⟩, fun x M' hx => ?_⟩
  have hB := hx 3  rfl
  obtain ⟨e12, e11, e14, eh⟩ := bo_e hB
  obtain ⟨a, b⟩ := obs_of (v := (bhP (M 12) 3).1) hB (by
    intro o z
    cases z
    refine ⟨?_, rfl⟩
    show (bhP (M 12) 3).1 = (bhP (M' 12) 3).1
    rw [e12])
  exact close M' (mx M M') x (mx_r M M') (mx_a M M') ⟨a, b⟩
abbrev D_leastSmall : Ct := (1, true, fun as M => as = [wR 3] ∧ (GI M), fun as M x M' => as = [wR 3] → (x = lsm (M 12) 201 0 ∧ Sme M M'))
theorem der_leastSmall : Der C_X6_leastSmall D_leastSmall := by
  rintro as M ⟨rfl, hp⟩
  have close : ∀ (M' M2 : Mem) (x : Int), (∀ r, rOK r → M2 r = M' r) → arS M M2 → ((x = lsm (M 12) 201 0 ∧ Sme M M2)) → ∃ M2 : Mem, (∀ r, rOK r → M2 r = M' r) ∧ (∀ r, 191 ≤ r → r ≤ 193 → M2 r = M r) ∧ D_leastSmall.2.2.2 [wR 3] M x M2 := fun M' M2 x a b c => ⟨M2, a, b, fun z => by cases z; exact c⟩
  refine ⟨M, fun _ _ => rfl, ⟨3, rfl, rfl, hp⟩, fun x M' hx => ?_⟩
  have hB := hx 3  rfl
  obtain ⟨e12, e11, e14, eh⟩ := bo_e hB
  obtain ⟨a, b⟩ := obs_of (v := lsm (M 12) 201 0) hB (by
    intro o z
    cases z
    refine ⟨?_, rfl⟩
    show lsm (M 12) 201 0 = lsm (M' 12) 201 0
    rw [e12])
  exact close M' (mx M M') x (mx_r M M') (mx_a M M') ⟨a, b⟩
abbrev D_trunk : Ct := (3, true, fun as M => ∃ (t : Int) (w : Int), as = [wR 3, wI t, wI w] ∧ (GI M ∧ inr t ∧ inr w), fun as M x M' => ∀ (t : Int) (w : Int), as = [wR 3, wI t, wI w] → ((¬ hasT (M 12) t ∧ x = -1 ∨ hasT (M 12) t ∧ x = trV (M 12) t w) ∧ Sme M M'))
theorem der_trunk : Der C_X6_trunk D_trunk := by
  rintro as M ⟨t, w, rfl, hp⟩
  have close : ∀ (M' M2 : Mem) (x : Int), (∀ r, rOK r → M2 r = M' r) → arS M M2 → (((¬ hasT (M 12) t ∧ x = -1 ∨ hasT (M 12) t ∧ x = trV (M 12) t w) ∧ Sme M M2)) → ∃ M2 : Mem, (∀ r, rOK r → M2 r = M' r) ∧ (∀ r, 191 ≤ r → r ≤ 193 → M2 r = M r) ∧ D_trunk.2.2.2 [wR 3, wI t, wI w] M x M2 := fun M' M2 x a b c => ⟨M2, a, b, fun _ _ z => by cases z; exact c⟩
  refine ⟨M, fun _ _ => rfl, ⟨3, t, w, rfl, rfl, hp.1, hp.2.1, hp.2.2⟩, fun x M' hx => ?_⟩
  have hB := hx 3 t w rfl
  obtain ⟨e12, e11, e14, eh⟩ := bo_e hB
  by_cases hT : hasT (M 12) t
  · obtain ⟨a, b⟩ := obs_of (v := trV (M 12) t w) hB (by
      intro o t' w' z
      cases z
      exact ⟨rfl, Or.inr ⟨by rw [e12]; exact hT, by rw [e12]⟩⟩)
    exact close M' (mx M M') x (mx_r M M') (mx_a M M') ⟨Or.inr ⟨hT, a⟩, b⟩
  · obtain ⟨a, b⟩ := obs_of (v := -1) hB (by
      intro o t' w' z
      cases z
      exact ⟨rfl, Or.inl ⟨by rw [e12]; exact hT, rfl⟩⟩)
    exact close M' (mx M M') x (mx_r M M') (mx_a M M') ⟨Or.inl ⟨hT, a⟩, b⟩
abbrev D_untilGone : Ct := (2, true, fun as M => ∃ (t : Int), as = [wR 3, wI t] ∧ (GI M ∧ inr t), fun as M x M' => ∀ (t : Int), as = [wR 3, wI t] → ((¬ hasT (M 12) t ∧ x = -1 ∨ hasT (M 12) t ∧ x = unt t 201 0 (M 12)) ∧ Sme M M'))
theorem der_untilGone : Der C_X6_untilGone D_untilGone := by
  rintro as M ⟨t, rfl, hp⟩
  have close : ∀ (M' M2 : Mem) (x : Int), (∀ r, rOK r → M2 r = M' r) → arS M M2 → (((¬ hasT (M 12) t ∧ x = -1 ∨ hasT (M 12) t ∧ x = unt t 201 0 (M 12)) ∧ Sme M M2)) → ∃ M2 : Mem, (∀ r, rOK r → M2 r = M' r) ∧ (∀ r, 191 ≤ r → r ≤ 193 → M2 r = M r) ∧ D_untilGone.2.2.2 [wR 3, wI t] M x M2 := fun M' M2 x a b c => ⟨M2, a, b, fun _ z => by cases z; exact c⟩
  refine ⟨M, fun _ _ => rfl, ⟨3, t, rfl, rfl, hp.1, hp.2⟩, fun x M' hx => ?_⟩
  have hB := hx 3 t rfl
  obtain ⟨e12, e11, e14, eh⟩ := bo_e hB
  by_cases hT : hasT (M 12) t
  · obtain ⟨a, b⟩ := obs_of (v := unt t 201 0 (M 12)) hB (by
      intro o t' z
      cases z
      exact Or.inr ⟨by rw [e12]; exact hT, (by show unt t 201 0 (M 12) = unt t 201 0 (M' 12); rw [e12]), rfl⟩)
    exact close M' (mx M M') x (mx_r M M') (mx_a M M') ⟨Or.inr ⟨hT, a⟩, b⟩
  · obtain ⟨a, b⟩ := obs_of (v := -1) hB (by
      intro o t' z
      cases z
      exact Or.inl ⟨by rw [e12]; exact hT, rfl, rfl⟩)
    exact close M' (mx M M') x (mx_r M M') (mx_a M M') ⟨Or.inl ⟨hT, a⟩, b⟩
abbrev D_fate : Ct := (2, true, fun as M => ∃ (t : Int), as = [wR 3, wI t] ∧ (GI M ∧ inr t), fun as M x M' => ∀ (t : Int), as = [wR 3, wI t] → ((¬ hasT (M 12) t ∧ x = -1 ∨ hasT (M 12) t ∧ x = ftV t (M 12)) ∧ Sme M M'))
theorem der_fate : Der C_X6_fate D_fate := by
  rintro as M ⟨t, rfl, hp⟩
  have close : ∀ (M' M2 : Mem) (x : Int), (∀ r, rOK r → M2 r = M' r) → arS M M2 → (((¬ hasT (M 12) t ∧ x = -1 ∨ hasT (M 12) t ∧ x = ftV t (M 12)) ∧ Sme M M2)) → ∃ M2 : Mem, (∀ r, rOK r → M2 r = M' r) ∧ (∀ r, 191 ≤ r → r ≤ 193 → M2 r = M r) ∧ D_fate.2.2.2 [wR 3, wI t] M x M2 := fun M' M2 x a b c => ⟨M2, a, b, fun _ z => by cases z; exact c⟩
  refine ⟨M, fun _ _ => rfl, ⟨3, t, rfl, rfl, hp.1, hp.2⟩, fun x M' hx => ?_⟩
  have hB := hx 3 t rfl
  obtain ⟨e12, e11, e14, eh⟩ := bo_e hB
  by_cases hT : hasT (M 12) t
  · obtain ⟨a, b⟩ := obs_of (v := ftV t (M 12)) hB (by
      intro o t' z
      cases z
      exact Or.inr ⟨by rw [e12]; exact hT, (by show ftV t (M 12) = ftV t (M' 12); rw [e12]), rfl⟩)
    exact close M' (mx M M') x (mx_r M M') (mx_a M M') ⟨Or.inr ⟨hT, a⟩, b⟩
  · obtain ⟨a, b⟩ := obs_of (v := -1) hB (by
      intro o t' z
      cases z
      exact Or.inl ⟨by rw [e12]; exact hT, rfl, rfl⟩)
    exact close M' (mx M M') x (mx_r M M') (mx_a M M') ⟨Or.inl ⟨hT, a⟩, b⟩
abbrev D_set : Ct := (3, true, fun as M => ∃ (s : Int) (v : Int), as = [wR 3, wI s, wI v] ∧ (GI M ∧ vS s v), fun as M x M' => ∀ (s : Int) (v : Int), as = [wR 3, wI s, wI v] → (x = M 12 s ∧ Chd M M' (us (M 12) s v)))
theorem der_set : Der C_X6_set D_set := by
  rintro as M ⟨s, v, rfl, hp⟩
  have close : ∀ (M' M2 : Mem) (x : Int), (∀ r, rOK r → M2 r = M' r) → arS M M2 → ((x = M 12 s ∧ Chd M M2 (us (M 12) s v))) → ∃ M2 : Mem, (∀ r, rOK r → M2 r = M' r) ∧ (∀ r, 191 ≤ r → r ≤ 193 → M2 r = M r) ∧ D_set.2.2.2 [wR 3, wI s, wI v] M x M2 := fun M' M2 x a b c => ⟨M2, a, b, fun _ _ z => by cases z; exact c⟩
  have hv := hp.2
  unfold vS at hv
  have hs4 := hp.1.2.2.1
  refine ⟨M, fun _ _ => rfl, ⟨3, s, v, rfl, rfl, hp.1, by omega, by omega⟩, fun x M' hx => ?_⟩
  have hB := hx 3 s v rfl
  obtain ⟨e12, e11, e14, eh⟩ := bo_e hB
  obtain ⟨q1, q2, q3, q4⟩ := chg_ok (M := M') (g := us (M' 12) s v) (by rw [e11]; exact hs4)
  obtain ⟨a, b⟩ := chd_of (v := M 12 s) hB (N := chgM M' (us (M' 12) s v)) (by
    intro o s' v' z
    cases z
    exact Or.inl ⟨hp.2, by rw [e12], q1, q2, q3⟩) q1
  rw [e12] at b
  exact close M' (mx M (chgM M' (us (M' 12) s v))) x (chg_r q4 M) (mx_a _ _) ⟨a, by rw [e12]; exact b⟩
abbrev D_weight : Ct := (3, true, fun as M => ∃ (s : Int) (v : Int), as = [wR 3, wI s, wI v] ∧ (GI M ∧ (0 ≤ s ∧ s < 6) ∧ 1 ≤ v ∧ v ≤ 9), fun as M x M' => ∀ (s : Int) (v : Int), as = [wR 3, wI s, wI v] → (x = M 12 (15 + s) ∧ Chd M M' (us (M 12) (15 + s) v)))
theorem der_weight : Der C_X6_weight D_weight := by
  rintro as M ⟨s, v, rfl, hp⟩
  have close : ∀ (M' M2 : Mem) (x : Int), (∀ r, rOK r → M2 r = M' r) → arS M M2 → ((x = M 12 (15 + s) ∧ Chd M M2 (us (M 12) (15 + s) v))) → ∃ M2 : Mem, (∀ r, rOK r → M2 r = M' r) ∧ (∀ r, 191 ≤ r → r ≤ 193 → M2 r = M r) ∧ D_weight.2.2.2 [wR 3, wI s, wI v] M x M2 := fun M' M2 x a b c => ⟨M2, a, b, fun _ _ z => by cases z; exact c⟩
  have hs4 := hp.1.2.2.1
  refine ⟨M, fun _ _ => rfl, ⟨3, s, v, rfl, rfl, hp.1, by omega, by omega⟩, fun x M' hx => ?_⟩
  have hB := hx 3 s v rfl
  obtain ⟨e12, e11, e14, eh⟩ := bo_e hB
  obtain ⟨q1, q2, q3, q4⟩ := chg_ok (M := M') (g := us (M' 12) (15 + s) v) (by rw [e11]; exact hs4)
  obtain ⟨a, b⟩ := chd_of (v := M 12 (15 + s)) hB (N := chgM M' (us (M' 12) (15 + s) v)) (by
    intro o s' v' z
    cases z
    exact Or.inl ⟨hp.2.1, hp.2.2, by rw [e12], q1, q2, q3⟩) q1
  rw [e12] at b
  exact close M' (mx M (chgM M' (us (M' 12) (15 + s) v))) x (chg_r q4 M) (mx_a _ _) ⟨a, by rw [e12]; exact b⟩
abbrev D_trust : Ct := (3, true, fun as M => ∃ (s : Int) (v : Int), as = [wR 3, wI s, wI v] ∧ (GI M ∧ (0 ≤ s ∧ s < 5) ∧ 0 ≤ v ∧ v ≤ 9), fun as M x M' => ∀ (s : Int) (v : Int), as = [wR 3, wI s, wI v] → (x = M 12 (21 + s) ∧ Chd M M' (us (M 12) (21 + s) v)))
theorem der_trust : Der C_X6_trust D_trust := by
  rintro as M ⟨s, v, rfl, hp⟩
  have close : ∀ (M' M2 : Mem) (x : Int), (∀ r, rOK r → M2 r = M' r) → arS M M2 → ((x = M 12 (21 + s) ∧ Chd M M2 (us (M 12) (21 + s) v))) → ∃ M2 : Mem, (∀ r, rOK r → M2 r = M' r) ∧ (∀ r, 191 ≤ r → r ≤ 193 → M2 r = M r) ∧ D_trust.2.2.2 [wR 3, wI s, wI v] M x M2 := fun M' M2 x a b c => ⟨M2, a, b, fun _ _ z => by cases z; exact c⟩
  have hs4 := hp.1.2.2.1
  refine ⟨M, fun _ _ => rfl, ⟨3, s, v, rfl, rfl, hp.1, by omega, by omega⟩, fun x M' hx => ?_⟩
  have hB := hx 3 s v rfl
  obtain ⟨e12, e11, e14, eh⟩ := bo_e hB
  obtain ⟨q1, q2, q3, q4⟩ := chg_ok (M := M') (g := us (M' 12) (21 + s) v) (by rw [e11]; exact hs4)
  obtain ⟨a, b⟩ := chd_of (v := M 12 (21 + s)) hB (N := chgM M' (us (M' 12) (21 + s) v)) (by
    intro o s' v' z
    cases z
    exact Or.inl ⟨hp.2.1, hp.2.2, by rw [e12], q1, q2, q3⟩) q1
  rw [e12] at b
  exact close M' (mx M (chgM M' (us (M' 12) (21 + s) v))) x (chg_r q4 M) (mx_a _ _) ⟨a, by rw [e12]; exact b⟩
abbrev D_hands : Ct := (3, true, fun as M => ∃ (s : Int) (v : Int), as = [wR 3, wI s, wI v] ∧ (GI M ∧ (0 ≤ s ∧ s < 3) ∧ 0 ≤ v ∧ v ≤ 3), fun as M x M' => ∀ (s : Int) (v : Int), as = [wR 3, wI s, wI v] → (x = M 12 (26 + 4 * s) ∧ Chd M M' (us (M 12) (26 + 4 * s) v)))
theorem der_hands : Der C_X6_hands D_hands := by
  rintro as M ⟨s, v, rfl, hp⟩
  have close : ∀ (M' M2 : Mem) (x : Int), (∀ r, rOK r → M2 r = M' r) → arS M M2 → ((x = M 12 (26 + 4 * s) ∧ Chd M M2 (us (M 12) (26 + 4 * s) v))) → ∃ M2 : Mem, (∀ r, rOK r → M2 r = M' r) ∧ (∀ r, 191 ≤ r → r ≤ 193 → M2 r = M r) ∧ D_hands.2.2.2 [wR 3, wI s, wI v] M x M2 := fun M' M2 x a b c => ⟨M2, a, b, fun _ _ z => by cases z; exact c⟩
  have hs4 := hp.1.2.2.1
  refine ⟨M, fun _ _ => rfl, ⟨3, s, v, rfl, rfl, hp.1, by omega, by omega⟩, fun x M' hx => ?_⟩
  have hB := hx 3 s v rfl
  obtain ⟨e12, e11, e14, eh⟩ := bo_e hB
  obtain ⟨q1, q2, q3, q4⟩ := chg_ok (M := M') (g := us (M' 12) (26 + 4 * s) v) (by rw [e11]; exact hs4)
  obtain ⟨a, b⟩ := chd_of (v := M 12 (26 + 4 * s)) hB (N := chgM M' (us (M' 12) (26 + 4 * s) v)) (by
    intro o s' v' z
    cases z
    exact Or.inl ⟨hp.2.1, hp.2.2, by rw [e12], q1, q2, q3⟩) q1
  rw [e12] at b
  exact close M' (mx M (chgM M' (us (M' 12) (26 + 4 * s) v))) x (chg_r q4 M) (mx_a _ _) ⟨a, by rw [e12]; exact b⟩
abbrev D_turn : Ct := (2, true, fun as M => ∃ (n : Int), as = [wR 3, wI n] ∧ (GI M ∧ (1 ≤ n ∧ n ≤ 99) ∧ M 12 6 + n ≤ 9999), fun as M x M' => ∀ (n : Int), as = [wR 3, wI n] → (x = psn n.toNat (M 12) ∧ Chd M M' (tnN n.toNat (M 12))))
theorem der_turn : Der C_X6_turn D_turn := by
  rintro as M ⟨n, rfl, hp⟩
  have close : ∀ (M' M2 : Mem) (x : Int), (∀ r, rOK r → M2 r = M' r) → arS M M2 → ((x = psn n.toNat (M 12) ∧ Chd M M2 (tnN n.toNat (M 12)))) → ∃ M2 : Mem, (∀ r, rOK r → M2 r = M' r) ∧ (∀ r, 191 ≤ r → r ≤ 193 → M2 r = M r) ∧ D_turn.2.2.2 [wR 3, wI n] M x M2 := fun M' M2 x a b c => ⟨M2, a, b, fun _ z => by cases z; exact c⟩
  have hs4 := hp.1.2.2.1
  refine ⟨M, fun _ _ => rfl, ⟨3, n, rfl, rfl, hp.1, by omega⟩, fun x M' hx => ?_⟩
  have hB := hx 3 n rfl
  obtain ⟨e12, e11, e14, eh⟩ := bo_e hB
  obtain ⟨q1, q2, q3, q4⟩ := chg_ok (M := M') (g := tnN n.toNat (M' 12)) (by rw [e11]; exact hs4)
  obtain ⟨a, b⟩ := chd_of (v := psn n.toNat (M 12)) hB (N := chgM M' (tnN n.toNat (M' 12))) (by
    intro o n' z
    cases z
    exact Or.inr (Or.inr ⟨hp.2.1, by rw [e12]; exact hp.2.2, M' 12, Wn.rf, by rw [e12], q1, q2, q3⟩)) q1
  rw [e12] at b
  exact close M' (mx M (chgM M' (tnN n.toNat (M' 12)))) x (chg_r q4 M) (mx_a _ _) ⟨a, by rw [e12]; exact b⟩
abbrev D_sendBack : Ct := (2, true, fun as M => ∃ (t : Int), as = [wR 3, wI t] ∧ (GI M ∧ inr t), fun as M x M' => ∀ (t : Int), as = [wR 3, wI t] → ((¬ wtT (M 12) t ∧ x = -1 ∧ Sme M M') ∨ (wtT (M 12) t ∧ x = M 12 (91 + 9 * t) ∧ Chd M M' (sbk (M 12) t))))
theorem der_sendBack : Der C_X6_sendBack D_sendBack := by
  rintro as M ⟨t, rfl, hp⟩
  have close : ∀ (M' M2 : Mem) (x : Int), (∀ r, rOK r → M2 r = M' r) → arS M M2 → (((¬ wtT (M 12) t ∧ x = -1 ∧ Sme M M2) ∨ (wtT (M 12) t ∧ x = M 12 (91 + 9 * t) ∧ Chd M M2 (sbk (M 12) t)))) → ∃ M2 : Mem, (∀ r, rOK r → M2 r = M' r) ∧ (∀ r, 191 ≤ r → r ≤ 193 → M2 r = M r) ∧ D_sendBack.2.2.2 [wR 3, wI t] M x M2 := fun M' M2 x a b c => ⟨M2, a, b, fun _ z => by cases z; exact c⟩
  have hs4 := hp.1.2.2.1
  refine ⟨M, fun _ _ => rfl, ⟨3, t, rfl, rfl, hp.1, hp.2⟩, fun x M' hx => ?_⟩
  have hB := hx 3 t rfl
  obtain ⟨e12, e11, e14, eh⟩ := bo_e hB
  by_cases hw : wtT (M 12) t
  · obtain ⟨q1, q2, q3, q4⟩ := chg_ok (M := M') (g := sbk (M' 12) t) (by rw [e11]; exact hs4)
    obtain ⟨a, b⟩ := chd_of (v := M 12 (91 + 9 * t)) hB (N := chgM M' (sbk (M' 12) t)) (by
      intro o t' z
      cases z
      exact Or.inr ⟨by rw [e12]; exact hw, M' 12, Wn.rf, by rw [e12], q1, q2, q3⟩) q1
    rw [e12] at b
    exact close M' (mx M (chgM M' (sbk (M' 12) t))) x (chg_r q4 M) (mx_a _ _) (Or.inr ⟨hw, a, by rw [e12]; exact b⟩)
  · obtain ⟨a, b⟩ := obs_of (v := -1) hB (by
      intro o t' z
      cases z
      exact Or.inl ⟨by rw [e12]; exact hw, rfl, rfl⟩)
    exact close M' (mx M M') x (mx_r M M') (mx_a M M') (Or.inl ⟨hw, a, b⟩)
abbrev D_mend : Ct := (5, true, fun as M => ∃ (t : Int) (w : Int) (k : Int) (v : Int), as = [wR 3, wI t, wI w, wI k, wI v] ∧ (GI M ∧ inr t ∧ (w = 0 ∨ w = 1) ∧ (0 ≤ k ∧ k < 6) ∧ 0 ≤ v ∧ v ≤ 9), fun as M x M' => ∀ (t : Int) (w : Int) (k : Int) (v : Int), as = [wR 3, wI t, wI w, wI k, wI v] → ((¬ wtT (M 12) t ∧ x = -1 ∧ Sme M M') ∨ (wtT (M 12) t ∧ x = dbt (mnd (M 12) t w k v) t ∧ Chd M M' (mnd (M 12) t w k v))))
theorem der_mend : Der C_X6_mend D_mend := by
  rintro as M ⟨t, w, k, v, rfl, hp⟩
  have close : ∀ (M' M2 : Mem) (x : Int), (∀ r, rOK r → M2 r = M' r) → arS M M2 → (((¬ wtT (M 12) t ∧ x = -1 ∧ Sme M M2) ∨ (wtT (M 12) t ∧ x = dbt (mnd (M 12) t w k v) t ∧ Chd M M2 (mnd (M 12) t w k v)))) → ∃ M2 : Mem, (∀ r, rOK r → M2 r = M' r) ∧ (∀ r, 191 ≤ r → r ≤ 193 → M2 r = M r) ∧ D_mend.2.2.2 [wR 3, wI t, wI w, wI k, wI v] M x M2 := fun M' M2 x a b c => ⟨M2, a, b, fun _ _ _ _ z => by cases z; exact c⟩
  have hs4 := hp.1.2.2.1
  refine ⟨M, fun _ _ => rfl, ⟨3, t, w, k, v, rfl, rfl, hp.1, hp.2.1, by omega, by omega, by omega⟩, fun x M' hx => ?_⟩
  have hB := hx 3 t w k v rfl
  obtain ⟨e12, e11, e14, eh⟩ := bo_e hB
  by_cases hw : wtT (M 12) t
  · obtain ⟨q1, q2, q3, q4⟩ := chg_ok (M := M') (g := mnd (M' 12) t w k v) (by rw [e11]; exact hs4)
    obtain ⟨a, b⟩ := chd_of (v := dbt (mnd (M 12) t w k v) t) hB (N := chgM M' (mnd (M' 12) t w k v)) (by
      intro o t' w' k' v' z
      cases z
      exact Or.inr (Or.inr ⟨⟨by rw [e12]; exact hw, hp.2.2.2.1⟩, ⟨hp.2.2.1, hp.2.2.2.2⟩, M' 12, Wn.rf, by rw [e12], q1, q2, q3⟩)) q1
    rw [e12] at b
    exact close M' (mx M (chgM M' (mnd (M' 12) t w k v))) x (chg_r q4 M) (mx_a _ _) (Or.inr ⟨hw, a, by rw [e12]; exact b⟩)
  · obtain ⟨a, b⟩ := obs_of (v := -1) hB (by
      intro o t' w' k' v' z
      cases z
      exact Or.inl ⟨fun z => hw (by rw [← e12]; exact z.1), rfl, rfl⟩)
    exact close M' (mx M M') x (mx_r M M') (mx_a M M') (Or.inl ⟨hw, a, b⟩)
/-- the row is the history's last, which has one less -/
def Und (M M' : Mem) : Prop := GI M' ∧ M' 12 = hs M (M 11 1) ∧ M' 11 1 = M 11 1 - 1 ∧ (∀ j, hs M' j = hs M j) ∧ arS M M'
abbrev D_undo : Ct := (1, true, fun as M => as = [wR 3] ∧ (GI M ∧ M 11 1 ≠ 0), fun as M x M' => as = [wR 3] → (x = M 11 1 - 1 ∧ Und M M'))
theorem der_undo : Der C_X6_undo D_undo := by
  rintro as M ⟨rfl, hp⟩
  have close : ∀ (M' M2 : Mem) (x : Int), (∀ r, rOK r → M2 r = M' r) → arS M M2 → ((x = M 11 1 - 1 ∧ Und M M2)) → ∃ M2 : Mem, (∀ r, rOK r → M2 r = M' r) ∧ (∀ r, 191 ≤ r → r ≤ 193 → M2 r = M r) ∧ D_undo.2.2.2 [wR 3] M x M2 := fun M' M2 x a b c => ⟨M2, a, b, fun z => by cases z; exact c⟩
  refine ⟨M, fun _ _ => rfl, ⟨3, rfl, rfl, hp.1⟩, fun x M' hx => ?_⟩
  have hB := hx 3 rfl
  obtain ⟨e12, e11, e14, eh⟩ := bo_e hB
  obtain ⟨a, b⟩ := hB.2 (M 11 1 - 1) (unM M') (by
    intro o z
    cases z
    exact Or.inr ⟨by rw [e11]; exact hp.2, by rw [e11], rfl⟩)
  have u12 : unM M' 12 = hs M (M 11 1) := by
    show hs M' (M' 11 1) = _
    rw [e11, eh]
  have u11 : unM M' 11 = us (M 11) 1 (M 11 1 - 1) := by
    show us (M' 11) 1 (M' 11 1 - 1) = _
    rw [e11]
  have uo : ∀ r, r ≠ 11 → r ≠ 12 → unM M' r = M' r := fun r a b => by
    show (if r = 12 then _ else if r = 11 then _ else M' r) = _
    rw [if_neg b, if_neg a]
  refine close M' (mx M (unM M')) x (fun r z => (mx_r _ _ r z).trans (uo r (by unfold rOK at z; omega) (by unfold rOK at z; omega))) (mx_a _ _) ⟨a, GI_co b (fun r h => mx_lo h), ?_, ?_, fun j => ?_, mx_a _ _⟩
  · rw [mx_lo (by omega), u12]
  · rw [mx_lo (by omega), u11, us_s]
  · rw [hs_mx, ← eh j]
    exact hs_e (fun r z => uo r (by omega) (by omega)) j
noncomputable def rdV (f c : Int → Int) (n : Int) : Int := if flt c n ≠ -6 then -3 else if f 27 + f 31 + f 35 = 16 ∨ f 7 = 64 then -4 else f 7
abbrev D_read : Ct := (1, true, fun as M => as = [wR 3] ∧ (GI M), fun as M x M' => as = [wR 3] → (x = rdV (M 12) (M 14) (M 11 4) ∧ ((x < 0 ∧ Sme M M') ∨ (0 ≤ x ∧ ¬ (M 12 27 + M 12 31 + M 12 35 = 16 ∨ M 12 7 = 64) ∧ ∃ ct up lo tr, Chd M M' (adm (M 12) ct up lo tr)))))
theorem der_read : Der C_X6_read D_read := by
  rintro as M ⟨rfl, hp⟩
  have close : ∀ (M' M2 : Mem) (x : Int), (∀ r, rOK r → M2 r = M' r) → arS M M2 → ((x = rdV (M 12) (M 14) (M 11 4) ∧ ((x < 0 ∧ Sme M M2) ∨ (0 ≤ x ∧ ¬ (M 12 27 + M 12 31 + M 12 35 = 16 ∨ M 12 7 = 64) ∧ ∃ ct up lo tr, Chd M M2 (adm (M 12) ct up lo tr))))) → ∃ M2 : Mem, (∀ r, rOK r → M2 r = M' r) ∧ (∀ r, 191 ≤ r → r ≤ 193 → M2 r = M r) ∧ D_read.2.2.2 [wR 3] M x M2 := fun M' M2 x a b c => ⟨M2, a, b, fun z => by cases z; exact c⟩
  have hs4 := hp.2.2.1
  have i7 := hp.2.1.1.i7
  refine ⟨M, fun _ _ => rfl, ⟨3, rfl, rfl, hp⟩, fun x M' hx => ?_⟩
  have hB := hx 3 rfl
  obtain ⟨e12, e11, e14, eh⟩ := bo_e hB
  unfold rdV at close
  by_cases hf : flt (M 14) (M 11 4) ≠ -6
  · rw [if_pos hf] at close
    obtain ⟨a, b⟩ := obs_of (v := -3) hB (by
      intro o z
      cases z
      rw [e14, e11]
      exact Or.inl ⟨hf, rfl, Sp.rf⟩)
    exact close M' (mx M M') x (mx_r M M') (mx_a M M') ⟨a, Or.inl ⟨by omega, b⟩⟩
  · rw [if_neg hf] at close
    have hf := Classical.not_not.mp hf
    by_cases hu : M 12 27 + M 12 31 + M 12 35 = 16 ∨ M 12 7 = 64
    · rw [if_pos hu] at close
      obtain ⟨a, b⟩ := obs_of (v := -4) hB (by
        intro o z
        cases z
        rw [e14, e11, e12]
        exact Or.inr (Or.inl ⟨hf, hu, rfl, Sp.rf⟩))
      exact close M' (mx M M') x (mx_r M M') (mx_a M M') ⟨a, Or.inl ⟨by omega, b⟩⟩
    · rw [if_neg hu] at close
      obtain ⟨G, hG⟩ : ∃ G, G = adm (M' 12) (M' 14 0 - 48) (r1 (M' 14) (M' 11 4)).2.2 (r2 (M' 14) (M' 11 4)).2.2 (pTr (M' 14) (M' 11 4)) := ⟨_, rfl⟩
      obtain ⟨q1, q2, q3, q4⟩ := chg_ok (M := M') (g := G) (by rw [e11]; exact hs4)
      have o : ∀ r, r ≠ 11 → upM (chgM M' G) 11 4 0 r = chgM M' G r := fun r a => upM_r a
      have o1 : upM (chgM M' G) 11 4 0 11 1 = chgM M' G 11 1 := upM_k (by omega)
      have q1' : Chg M' (upM (chgM M' G) 11 4 0) G := by
        obtain ⟨c1, c2, c3⟩ := q1
        refine ⟨(o 12 (by omega)).trans c1, o1.trans c2, fun j a b => ?_⟩
        rw [o1] at b ⊢
        rw [← c3 j a b]
        exact hs_e (fun r z => o r (by omega)) j
      obtain ⟨a, b⟩ := chd_of (v := M 12 7) hB (N := upM (chgM M' G) 11 4 0) (by
        intro o' z
        cases z
        refine Or.inr (Or.inr ⟨by rw [e14, e11]; exact hf, by rw [e12]; exact hu, by rw [e12], ⟨M' 12, Wn.rf, by rw [← hG]; exact q1'⟩, fun r a b c d => (o r b).trans (q2 r a b c d), upM_s⟩)) q1'
      have eG : G = adm (M 12) (M' 14 0 - 48) (r1 (M' 14) (M' 11 4)).2.2 (r2 (M' 14) (M' 11 4)).2.2 (pTr (M' 14) (M' 11 4)) := by rw [hG, e12]
      exact close M' (mx M (upM (chgM M' G) 11 4 0)) x (chg_r (fun r z => (o r (by unfold rOK at z; omega)).trans (q4 r z)) M) (mx_a _ _) ⟨a, Or.inr ⟨by omega, hu, M' 14 0 - 48, (r1 (M' 14) (M' 11 4)).2.2, (r2 (M' 14) (M' 11 4)).2.2, pTr (M' 14) (M' 11 4), eG ▸ b⟩⟩
theorem chn_1 : ∀ n : Nat, n < 127 → 33 ≤ n → chn 8 0 (n : Int) = 1 ∧ chb (n : Int) 0 = n := by decide +kernel
abbrev D_wipe : Ct := (1, true, fun as M => as = [wR 3] ∧ (GI M), fun as M x M' => as = [wR 3] → (PadS M M' ∧ M' 11 4 = 0))
theorem der_wipe : Der C_X6_wipe D_wipe := by
  rintro as M ⟨rfl, hp⟩
  have close : ∀ (M' M2 : Mem) (x : Int), (∀ r, rOK r → M2 r = M' r) → arS M M2 → ((PadS M M2 ∧ M2 11 4 = 0)) → ∃ M2 : Mem, (∀ r, rOK r → M2 r = M' r) ∧ (∀ r, 191 ≤ r → r ≤ 193 → M2 r = M r) ∧ D_wipe.2.2.2 [wR 3] M x M2 := fun M' M2 x a b c => ⟨M2, a, b, fun z => by cases z; exact c⟩
  refine ⟨M, fun _ _ => rfl, ⟨3, rfl, rfl, hp⟩, fun x M' hx => ?_⟩
  have hB := hx 3 rfl
  obtain ⟨e12, e11, e14, eh⟩ := bo_e hB
  obtain ⟨a, b⟩ := hB.2 (M' 11 4) (upM M' 11 4 0) (by
    intro o z
    cases z
    exact ⟨rfl, rfl⟩)
  have o : ∀ r, r ≠ 11 → upM M' 11 4 0 r = M' r := fun r a => upM_r a
  refine close M' (mx M (upM M' 11 4 0)) x (fun r z => (mx_r _ _ r z).trans (o r (by unfold rOK at z; omega))) (mx_a _ _) ⟨⟨GI_co b (fun r h => mx_lo h), ?_, ?_, fun j => ?_, mx_a _ _⟩, ?_⟩
  · rw [mx_lo (by omega), o 12 (by omega), e12]
  · rw [mx_lo (by omega), upM_k (by omega), e11]
  · rw [hs_mx, ← eh j]
    exact hs_e (fun r z => o r (by omega)) j
  · rw [mx_lo (by omega), upM_s]
abbrev D_put : Ct := (2, true, fun as M => ∃ (ch : Int), as = [wR 3, wL ch] ∧ (GI M ∧ (33 ≤ ch ∧ ch ≤ 126) ∧ M 11 4 < 60), fun as M x M' => ∀ (ch : Int), as = [wR 3, wL ch] → (x = M 11 4 + 1 ∧ PadS M M' ∧ M' 11 4 = M 11 4 + 1 ∧ M' 14 (M 11 4) = ch ∧ ∀ i, i ≠ M 11 4 → M' 14 i = M 14 i))
theorem der_put : Der C_X6_put D_put := by
  rintro as M ⟨ch, rfl, hp⟩
  have close : ∀ (M' M2 : Mem) (x : Int), (∀ r, rOK r → M2 r = M' r) → arS M M2 → ((x = M 11 4 + 1 ∧ PadS M M2 ∧ M2 11 4 = M 11 4 + 1 ∧ M2 14 (M 11 4) = ch ∧ ∀ i, i ≠ M 11 4 → M2 14 i = M 14 i)) → ∃ M2 : Mem, (∀ r, rOK r → M2 r = M' r) ∧ (∀ r, 191 ≤ r → r ≤ 193 → M2 r = M r) ∧ D_put.2.2.2 [wR 3, wL ch] M x M2 := fun M' M2 x a b c => ⟨M2, a, b, fun _ z => by cases z; exact c⟩
  have hc := chn_1 ch.toNat (by omega) (by omega)
  rw [show ((ch.toNat : Nat) : Int) = ch by omega] at hc
  obtain ⟨h1, h0⟩ := hc
  refine ⟨M, fun _ _ => rfl, ⟨3, ch, rfl, rfl, hp.1, by omega⟩, fun x M' hx => ?_⟩
  have hB := hx 3 ch rfl
  obtain ⟨e12, e11, e14, eh⟩ := bo_e hB
  obtain ⟨N, hN⟩ : ∃ N, N = upM (ptP M' ch 1 1) 11 4 (M' 11 4 + 1) := ⟨_, rfl⟩
  obtain ⟨a, b⟩ := hB.2 (M' 11 4 + 1) N (by
    intro o ch' z
    cases z
    rw [h1]
    exact Or.inr (Or.inr ⟨by omega, by rw [e11]; omega, rfl, hN⟩))
  have o : ∀ r, r ≠ 11 → r ≠ 14 → N r = M' r := fun r a b => by rw [hN, upM_r a, ptP_r b]
  have n1 : N 11 1 = M' 11 1 := by rw [hN, upM_k (by omega), ptP_r (by omega)]
  have n4 : N 11 4 = M 11 4 + 1 := by rw [hN, upM_s, e11]
  have n14 : ∀ i, N 14 i = if i = M 11 4 then ch else M 14 i := fun i => by
    rw [hN, upM_r (by omega)]
    show (if 14 = 14 ∧ M' 11 4 ≤ i ∧ i < M' 11 4 + 1 then chb ch (1 - 1 - (i - M' 11 4)) else M' 14 i) = _
    rw [e11, e14]
    by_cases z : i = M 11 4
    · rw [if_pos z, if_pos ⟨rfl, by omega, by omega⟩, z, show (1 : Int) - 1 - (M 11 4 - M 11 4) = 0 by omega, h0]
    · rw [if_neg z, if_neg (by omega)]
  refine close M' (mx M N) x (fun r z => (mx_r _ _ r z).trans (o r (by unfold rOK at z; omega) (by unfold rOK at z; omega))) (mx_a _ _) ⟨by rw [a, e11], ⟨GI_co b (fun r h => mx_lo h), ?_, ?_, fun j => ?_, mx_a _ _⟩, ?_, ?_, fun i z => ?_⟩
  · rw [mx_lo (by omega), o 12 (by omega) (by omega), e12]
  · rw [mx_lo (by omega), n1, e11]
  · rw [hs_mx, ← eh j]
    exact hs_e (fun r z => o r (by omega) (by omega)) j
  · rw [mx_lo (by omega), n4]
  · rw [mx_lo (by omega), n14, if_pos rfl]
  · rw [mx_lo (by omega), n14, if_neg z]
