/-- the trunk that comes -/
def adF (f : Int → Int) (ct up lo tr : Int) : Int → Int := fun j =>
  if j = 7 then f 7 + 1 else if j = 86 + 9 * f 7 then ct else if j = 87 + 9 * f 7 then up else if j = 88 + 9 * f 7 then lo else if j = 89 + 9 * f 7 then tr else if j = 92 + 9 * f 7 then f 6 else if 90 + 9 * f 7 ≤ j ∧ j ≤ 94 + 9 * f 7 then 0 else f j
def adm (f : Int → Int) (ct up lo tr : Int) : Int → Int := jn (adF f ct up lo tr) 0 (f 7)
theorem flt_ok {c : Int → Int} {n : Int} (h : flt c n = -6) : (0 < n ∧ 48 ≤ c 0 ∧ c 0 ≤ 52) ∧ (1 < n ∧ c 1 = 58) ∧ (r1 c n).1 = 1 ∧ ((r1 c n).2.1 < n ∧ c (r1 c n).2.1 = 47) ∧ (r2 c n).1 = 1 ∧ (((r2 c n).2.1 < n ∧ c (r2 c n).2.1 = 61 ∧ (r3 c n).1 = 1 ∧ (r3 c n).2.1 = n) ∨ (r2 c n).2.1 = n) := by
  unfold flt at h
  by_cases HA : 0 < n ∧ 48 ≤ c 0 ∧ c 0 ≤ 52
  · rw [if_neg (not_not_intro HA)] at h
    by_cases HB : 1 < n ∧ c 1 = 58
    · rw [if_neg (not_not_intro HB)] at h
      have b1 := rdp_bd (c := c) (n := n) 6 2 97 0 (by omega)
      rw [r1_eq] at b1
      by_cases HR : (r1 c n).1 = 0
      · rw [if_pos HR] at h
        omega
      · rw [if_neg HR] at h
        by_cases HC : (r1 c n).2.1 < n ∧ c (r1 c n).2.1 = 47
        · rw [if_neg (not_not_intro HC)] at h
          have b2 := rdp_bd (c := c) (n := n) 6 ((r1 c n).2.1 + 1) 97 0 (by omega)
          rw [r2_eq] at b2
          by_cases HS : (r2 c n).1 = 0
          · rw [if_pos HS] at h
            omega
          · rw [if_neg HS] at h
            refine ⟨HA, HB, by omega, HC, by omega, ?_⟩
            by_cases HE : (r2 c n).2.1 < n ∧ c (r2 c n).2.1 = 61
            · rw [if_pos HE] at h
              have b3 := rdp_bd (c := c) (n := n) 6 ((r2 c n).2.1 + 1) 97 0 (by omega)
              rw [r3_eq] at b3
              by_cases HT : (r3 c n).1 = 0
              · rw [if_pos HT] at h
                omega
              · rw [if_neg HT] at h
                by_cases HN : (r3 c n).2.1 = n
                · exact Or.inl ⟨HE.1, HE.2, by omega, HN⟩
                · rw [if_neg HN] at h
                  omega
            · rw [if_neg HE] at h
              by_cases HN : (r2 c n).2.1 = n
              · exact Or.inr HN
              · rw [if_neg HN] at h
                omega
        · rw [if_pos HC] at h
          omega
    · rw [if_pos HB] at h
      omega
  · rw [if_pos HA] at h
    omega
def zr (g : Int → Int) (p k : Int) : Int → Int := fun j => if p ≤ j ∧ j < p + k then 0 else g j
theorem zr_s {g : Int → Int} {p k : Int} (hk : 0 ≤ k) : us (zr g p k) (p + k) 0 = zr g p (k + 1) := by
  funext j
  unfold us zr
  by_cases e : j = p + k
  · rw [if_pos e, if_pos (by omega)]
  · rw [if_neg e]
    by_cases z : p ≤ j ∧ j < p + k
    · rw [if_pos z, if_pos (by omega)]
    · rw [if_neg z, if_neg (by omega)]
theorem zr_0 {g : Int → Int} {p : Int} : zr g p 0 = g := by
  funext j
  unfold zr
  rw [if_neg (by omega)]
def adC (g : Int → Int) (t ct up lo tr : Int) : Int → Int := us (us (us (us (us (us (zr g (86 + 9 * t) 9) (86 + 9 * t) ct) (87 + 9 * t) up) (89 + 9 * t) tr) (88 + 9 * t) lo) (92 + 9 * t) (g 6)) 7 (t + 1)
theorem adC_eq {g : Int → Int} {t ct up lo tr : Int} (ht : 0 ≤ t) (h7 : g 7 = t) : adC g t ct up lo tr = adF g ct up lo tr := by
  funext j
  unfold adC adF us zr
  rw [h7]
  repeat' split
  all_goals first | rfl | omega
theorem sp_up {M2 : Mem} {h : Int → Int} {i j v : Int} (e : M2 12 = h) (hi : i = j) : upM M2 12 i v = mr 0 M2 (us h j v) := by
  rw [up_sta, ← mr_0, e, hi]
theorem mr_Sp {M M' : Mem} {g : Int → Int} (h : Sp (mr 0 M g) M') : M' 12 = g := by
  rw [h.2 12 (by decide), mr_0, sta_12]
abbrev C_X7_read : Ct := (1, true, fun as M => ∃ (o : Nat), as = [wR o] ∧ (o = 11 ∧ PdM M ∧ Inv (M 12) ∧ 0 ≤ M 11 1 ∧ M 11 1 ≤ 4), fun as M x M' => ∀ (o : Nat), as = [wR o] → ((flt (M 14) (M 11 4) ≠ -6 ∧ x = -3 ∧ Sp M M') ∨ (flt (M 14) (M 11 4) = -6 ∧ (M 12 27 + M 12 31 + M 12 35 = 16 ∨ M 12 7 = 64) ∧ x = -4 ∧ Sp M M') ∨ (flt (M 14) (M 11 4) = -6 ∧ ¬ (M 12 27 + M 12 31 + M 12 35 = 16 ∨ M 12 7 = 64) ∧ x = M 12 7 ∧ (∃ g, Wn g (M 12) ∧ Chg M M' (adm g (M 14 0 - 48) (r1 (M 14) (M 11 4)).2.2 (r2 (M 14) (M 11 4)).2.2 (pTr (M 14) (M 11 4)))) ∧ Fr M M' ∧ M' 11 4 = 0)))
