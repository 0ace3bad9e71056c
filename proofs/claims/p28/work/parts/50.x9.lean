theorem slot_st {s : Int} (h : s = 0 ∨ s = 1) : isSt (59 + 22 * s.toNat) := by
  unfold isSt
  rcases h with rfl | rfl <;> decide
abbrev C_X6_undo : Ct := (1, true, fun as M => ∃ (o : Nat), as = [wR o] ∧ (o = 3 ∧ GI M), fun as M x M' => ∀ (o : Nat), as = [wR o] → (Bo C_X7_undo [wR 11] M M' x))
def sx_X6_undo : Sx := (tb_X6_undo, fdX6, kLX6, kIX6, sgX6, ntX6, [(224, (1, C_X1_takeBack))], 1)
set_option maxRecDepth 100000 in
set_option maxHeartbeats 1000000 in
theorem ok_X6_undo (L : Nat) (scr : Int → Int) (o : Nat) (M : Mem) (hp : o = 3 ∧ GI M) : Runs sx_X6_undo L (xcF scr) (fun x M' => Bo C_X7_undo [wR 11] M M' x) 0 [wR o] [] M := by
  obtain ⟨rfl, g⟩ := hp
  have sz := g.sz
  have I := g.2.1.1
  have e4 : M 4 2 = M 11 1 := g.1.2.2.1
  refine R_aload_n (q := 1) (i := 0) rfl rfl rfl rfl ?_
  refine R_getR (q := 4) rfl rfl rfl rfl rfl (by omega) ?_
  refine R_getI (q := 7) (k1 := 2) rfl rfl rfl rfl rfl (by omega) rfl ?_
  refine R_if_ne (q := 10) (tgt := 13) rfl rfl (by decide) (by omega) (fun h7 => ?_) (fun h7 => ?_)
  · refine R_aload_n (q := 14) (i := 0) rfl rfl rfl rfl ?_
    refine R_getR (q := 17) rfl rfl rfl rfl rfl (by omega) ?_
    refine R_aload_n (q := 18) (i := 0) rfl rfl rfl rfl ?_
    refine R_getR (q := 21) rfl rfl rfl rfl rfl (by omega) ?_
    have h1 : 1 ≤ M 11 1 ∧ M 11 1 ≤ 4 := by omega
    have r1 := g.1.2.2.2.1 (M 11 1) h1.1 (by omega)
    have O := g.2.2.2.1 (M 11 1) h1.1 (by omega)
    have i7 := O.1.i7
    have rs := ring_st M (M 11 1 - 1)
    have ec := r1.ca
    refine R_cV1N (q := 24) (ci := 1) (C := C_X1_takeBack) rfl rfl rfl rfl rfl ⟨_, _, rfl, ⟨rfl, rfl, g.1.2.1, by omega, by rw [e4, ec]; omega, by rw [e4, ec]; omega⟩⟩ rfl rfl (by omega) (fun M' hc => ?_)
    replace hc := hc _ _ rfl
    obtain ⟨c1, c2, c3, c4⟩ := hc
    rw [e4] at c1 c3
    have r2 := c1 _ r1
    generalize M' = M1 at r2 c2 c3 c4 ⊢
    refine R_aload_n (q := 25) (i := 0) rfl rfl rfl rfl ?_
    refine R_getR (q := 28) rfl rfl rfl rfl rfl (by omega) ?_
    refine R_getI (q := 31) (k1 := 2) rfl rfl rfl rfl rfl (by omega) rfl ?_
    refine R_ret rfl (Or.inl rfl) ?_
    refine ⟨fun r a b => c2 r (by omega) (by omega) (by omega), fun y N q => ?_⟩
    have e11 : M1 11 = M 11 := c2 11 (by omega) (by omega) (by omega)
    have e14 : M1 14 = M 14 := c2 14 (by omega) (by omega) (by omega)
    have eh := fun j => hs_e (M := M) (N := M1) (fun r z => c2 r (by omega) (by omega) (by omega)) j
    rcases q 11 rfl with ⟨z, _⟩ | ⟨_, z, hN⟩
    · rw [e11] at z
      omega
    · rw [e11] at z
      refine ⟨by rw [c3, z], ?_⟩
      have n12 : N 12 = hs M (M 11 1) := by
        rw [hN]
        show hs M1 (M1 11 1) = _
        rw [e11, eh]
      have n11 : N 11 = us (M 11) 1 (M 11 1 - 1) := by
        rw [hN]
        show us (M1 11) 1 (M1 11 1 - 1) = _
        rw [e11]
      have nR : ∀ r, r ≠ 11 → r ≠ 12 → N r = M1 r := fun r a b => by
        rw [hN]
        show (if r = 12 then _ else if r = 11 then _ else M1 r) = _
        rw [if_neg b, if_neg a]
      have n1 : N 11 1 = M 11 1 - 1 := by rw [n11, us_s]
      have n4 : N 11 4 = M 11 4 := by rw [n11, us_n (by omega)]
      have nS : ∀ j, hs N j = hs M j := fun j => (hs_e (M := M1) (N := N) (fun r z => nR r (by omega) (by omega)) j).trans (eh j)
      have m : ∀ r, r < 191 → r ≠ 4 → r ≠ 11 → r ≠ 12 → (r < 15 ∨ 37 ≤ r) → N r = M r := fun r a b c d e => (nR r c d).trans (c2 r a b e)
      have k4 : N 4 = M1 4 := nR 4 (by omega) (by omega)
      obtain ⟨⟨-, d2, d3, d4, d5, d6, d7⟩, p1, p2, p3, p4, p5, p6⟩ := g
      refine ⟨⟨r2.mv (fun r a b => nR r (by omega) (by omega)) (fun i _ _ => by rw [n12]), by rw [k4, c4]; exact d2, by rw [k4, c3, n1], fun j a b => ?_, trivial, ?_, ?_⟩, by rw [n12]; exact O, by rw [n1]; omega, fun j a b => ?_, trivial, ?_⟩
      · rw [n1] at b
        have rb := ring_b M (j - 1)
        rw [ring_e (by rw [k4, c4]), nS]
        exact (d4 j a (by omega)).mv (fun r x y => m r (by omega) (by omega) (by omega) (by omega) (by omega)) (fun _ _ _ => rfl)
      · rw [m 8 (by omega) (by omega) (by omega) (by omega) (by omega), n4]
        exact d6
      · rw [m 9 (by omega) (by omega) (by omega) (by omega) (by omega), n4, m 14 (by omega) (by omega) (by omega) (by omega) (by omega)]
        exact d7
      · rw [n1] at b
        rw [nS]
        exact p3 j a (by omega)
      · unfold PdM
        rw [n4, m 14 (by omega) (by omega) (by omega) (by omega) (by omega)]
        exact ⟨p5, p6⟩
  · refine R_bipush (q := 12) rfl rfl (by decide) ?_
    refine R_ret rfl (Or.inl rfl) ?_
    refine Bo_sm g SmC.rf (fun y N q => ?_)
    rcases q 11 rfl with ⟨_, z, rfl⟩ | ⟨z, _⟩
    · exact ⟨z.symm, SmR.rf⟩
    · omega
set_option maxRecDepth 100000 in
theorem mt_X6_undo : MtOK yX6_undo cX6_undo 1 (some .int) 3 C_X6_undo := by
  refine mt_of sx_X6_undo (by decide +kernel) (Or.inl ⟨rfl, rfl, rfl⟩) (by decide +kernel) fdX6_ok kLX6_ok kIX6_ok sgX6_ok ntX6_ok
    (all_cons (clokV mt_X1_takeBack rfl (GT_at 301 (by decide +kernel) (by decide +kernel)) (GT_at 15 (by decide +kernel) (by decide +kernel)) (GT_at 304 (by decide +kernel) (by decide +kernel)) (by decide +kernel) (by decide) (GT_at 302 (by decide +kernel) (by decide +kernel)) (GT_at 303 (by decide +kernel) (by decide +kernel)) rfl rfl) (all_nil)) ?_ ?_
  · rintro as M - ⟨o, rfl, hp⟩
    exact Nat.le_of_ble_eq_true rfl
  · rintro L scr as M - ⟨o, rfl, hp⟩
    exact Runs.mono (fun x M' h _ e => by cases e; exact h) (ok_X6_undo L scr o M hp)
