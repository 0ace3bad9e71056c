def Wn (g f : Int → Int) : Prop := ∀ i, 0 ≤ i → i < 662 → g i = f i
def mnd (f : Int → Int) (t w k v : Int) : Int → Int := us f (87 + 9 * t + w) (f (87 + 9 * t + w) + (v - dig (f (87 + 9 * t + w)) k) * pw k)
theorem pw0 : pw 0 = 100000 := rfl
theorem pw1 : pw 1 = 10000 := rfl
theorem pw2 : pw 2 = 1000 := rfl
theorem pw3 : pw 3 = 100 := rfl
theorem pw4 : pw 4 = 10 := rfl
theorem pw5 : pw 5 = 1 := rfl
theorem dig_set {d v k : Int} (hd : 0 ≤ d ∧ d < 1000000) (hv : 0 ≤ v ∧ v ≤ 9) (hk : 0 ≤ k ∧ k < 6) : (0 ≤ d + (v - dig d k) * pw k ∧ d + (v - dig d k) * pw k < 1000000) ∧ ∀ j, 0 ≤ j ∧ j < 6 → dig (d + (v - dig d k) * pw k) j = if j = k then v else dig d j := by
  refine k6 (P := fun k => (0 ≤ d + (v - dig d k) * pw k ∧ d + (v - dig d k) * pw k < 1000000) ∧ ∀ j, 0 ≤ j ∧ j < 6 → dig (d + (v - dig d k) * pw k) j = if j = k then v else dig d j) hk ?_ ?_ ?_ ?_ ?_ ?_
  all_goals
    refine ⟨?_, fun j hj => ?_⟩
    · simp only [dig, pw0, pw1, pw2, pw3, pw4, pw5]
      omega
    · have : j = 0 ∨ j = 1 ∨ j = 2 ∨ j = 3 ∨ j = 4 ∨ j = 5 := by omega
      rcases this with rfl | rfl | rfl | rfl | rfl | rfl <;> (simp only [dig, pw0, pw1, pw2, pw3, pw4, pw5]; first | (rw [if_pos rfl]; omega) | (rw [if_pos trivial]; omega) | (rw [if_neg (by omega)]; omega) | (simp only [if_true]; omega) | omega)
theorem mnd_Inv {f : Int → Int} {t w k v : Int} (I : Inv f) (ht : 0 ≤ t ∧ t < 64) (hw : w = 0 ∨ w = 1) (hk : 0 ≤ k ∧ k < 6) (hv : 0 ≤ v ∧ v ≤ 9) : Inv (mnd f t w k v) := by
  obtain ⟨iB, i7, iC, i16, iD, iE, iF, g8, g9, g10, g14⟩ := I
  have o : ∀ j, j ≠ 87 + 9 * t + w → mnd f t w k v j = f j := fun j h => us_n h
  refine ⟨?_, by rw [o 6 (by omega), o 7 (by omega)]; exact i7, fun e a b => by rw [o _ (by omega), o _ (by omega)]; exact iC e a b, by rw [o 27 (by omega), o 31 (by omega), o 35 (by omega)]; exact i16, fun e p q => ?_, fun e p e' p' q q' hh => ?_, fun t a b => ?_, ?_, ?_, ?_, ?_⟩
  · obtain ⟨a, b, c, d⟩ := iB
    refine ⟨?_, fun k k0 k1 => ?_, fun k k0 k1 => ?_, fun s s0 s1 => ?_⟩
    · rw [o 0 (by omega), o 1 (by omega), o 2 (by omega), o 3 (by omega), o 4 (by omega), o 5 (by omega)]
      exact a
    · rw [o _ (by omega)]
      exact b k k0 k1
    · rw [o _ (by omega)]
      exact c k k0 k1
    · obtain ⟨d0, d1, d2, d3⟩ := d s s0 s1
      refine ⟨by rw [o _ (by omega)]; exact d0, ?_, ?_, by rw [o _ (by omega)]; exact d3⟩
      · by_cases e : 87 + 9 * s = 87 + 9 * t + w
        · rw [e] at d1 ⊢
          unfold mnd
          rw [us_s]
          exact (dig_set d1 hv hk).1
        · rw [o _ e]
          exact d1
      · by_cases e : 88 + 9 * s = 87 + 9 * t + w
        · rw [e] at d2 ⊢
          unfold mnd
          rw [us_s]
          exact (dig_set d2 hv hk).1
        · rw [o _ e]
          exact d2
  · obtain ⟨a, b, x, y⟩ := q
    have c16 : f (27 + 4 * e) ≤ 16 := by
      have c0 := (iC 0 (by omega) (by omega)).2.2
      have c1 := (iC 1 (by omega) (by omega)).2.2
      have c2 := (iC 2 (by omega) (by omega)).2.2
      have m0 : f (27 + 4 * 0) = f 27 := rfl
      have m1 : f (27 + 4 * 1) = f 31 := rfl
      have m2 : f (27 + 4 * 2) = f 35 := rfl
      have : e = 0 ∨ e = 1 ∨ e = 2 := by omega
      rcases this with rfl | rfl | rfl <;> omega
    rw [o (27 + 4 * e) (by omega)] at y
    have := iD e p ⟨a, b, x, y⟩
    rw [o (38 + 16 * e + p) (by omega), o 7 (by omega), o (90 + 9 * f (38 + 16 * e + p)) (by omega)]
    exact this
  · obtain ⟨a, b, x, y⟩ := q
    obtain ⟨a', b', x', y'⟩ := q'
    have c16 : ∀ e, 0 ≤ e → e < 3 → f (27 + 4 * e) ≤ 16 := by
      intro e _ _
      have c0 := (iC 0 (by omega) (by omega)).2.2
      have c1 := (iC 1 (by omega) (by omega)).2.2
      have c2 := (iC 2 (by omega) (by omega)).2.2
      have m0 : f (27 + 4 * 0) = f 27 := rfl
      have m1 : f (27 + 4 * 1) = f 31 := rfl
      have m2 : f (27 + 4 * 2) = f 35 := rfl
      have : e = 0 ∨ e = 1 ∨ e = 2 := by omega
      rcases this with rfl | rfl | rfl <;> omega
    have z1 := c16 e a b
    have z2 := c16 e' a' b'
    rw [o (27 + 4 * e) (by omega)] at y
    rw [o (27 + 4 * e') (by omega)] at y'
    rw [o (38 + 16 * e + p) (by omega), o (38 + 16 * e' + p') (by omega)] at hh
    exact iE e p e' p' ⟨a, b, x, y⟩ ⟨a', b', x', y'⟩ hh
  · rw [o 7 (by omega)] at b
    rw [o _ (by omega), o _ (by omega)]
    obtain ⟨r1, r2, r3⟩ := iF t a b
    refine ⟨r1, r2, fun z => ⟨(r3 z).1, ?_⟩⟩
    obtain ⟨e, p, ⟨x1, x2, x3, x4⟩, h2⟩ := (r3 z).2
    have c16 : f (27 + 4 * e) ≤ 16 := by
      have c0 := (iC 0 (by omega) (by omega)).2.2
      have c1 := (iC 1 (by omega) (by omega)).2.2
      have c2 := (iC 2 (by omega) (by omega)).2.2
      have m0 : f (27 + 4 * 0) = f 27 := rfl
      have m1 : f (27 + 4 * 1) = f 31 := rfl
      have m2 : f (27 + 4 * 2) = f 35 := rfl
      have : e = 0 ∨ e = 1 ∨ e = 2 := by omega
      rcases this with rfl | rfl | rfl <;> omega
    exact ⟨e, p, ⟨x1, x2, x3, by rw [o (27 + 4 * e) (by omega)]; exact x4⟩, by rw [o _ (by omega)]; exact h2⟩
  · rw [o 8 (by omega), o 7 (by omega), g8]
    exact (cF_same _ (fun t a b => o _ (by omega))).symm
  · rw [o 9 (by omega), o 7 (by omega), g9]
    exact (cF_same _ (fun t a b => o _ (by omega))).symm
  · rw [o 10 (by omega), o 7 (by omega), g10]
    exact (cF_same _ (fun t a b => o _ (by omega))).symm
  · rw [o 14 (by omega), o 7 (by omega), g14]
    exact (cU_same _ (fun t a b => ⟨o _ (by omega), o _ (by omega)⟩)).symm
/-- a change with what a row is then -/
theorem Chg_mr {M M1 : Mem} {n : Int → Int} (h : Chg M M1 (M 12)) (hn : ∀ j, j < 0 ∨ 662 ≤ j → n j = M1 12 j) : Chg M (mr 0 M1 n) n := by
  obtain ⟨c1, c2, c3, c4⟩ := h
  have e : ∀ i, mr 0 M1 n 12 i = n i := fun i => by rw [mr_0, sta_12]
  refine ⟨fun i a b => e i, fun i a b => ?_, by rw [mr_ne (by decide)]; exact c3, fun j i a b c d => ?_⟩
  · rw [e, hn i (by omega), c2 i a b]
  · rw [mr_ne (show (11 : Nat) ≠ 12 by decide)] at b ⊢
    rw [e, hn _ (by omega), c4 j i a b c d]
theorem Fr_mr {M M1 : Mem} {n : Int → Int} (h : Fr M M1) : Fr M (mr 0 M1 n) := fun r a b => (mr_ne b).trans (h r a b)
def wtT (f : Int → Int) (t : Int) : Prop := (0 ≤ t ∧ t < f 7) ∧ f (90 + 9 * t) = 0
theorem wt_dec (f : Int → Int) (t : Int) : wtT f t ∨ ¬ wtT f t := Classical.em _
abbrev C_X7_mend : Ct := (5, true, fun as M => ∃ (o : Nat) (t : Int) (w : Int) (k : Int) (v : Int), as = [wR o, wI t, wI w, wI k, wI v] ∧ (o = 11 ∧ (inr t ∧ inr w ∧ inr k ∧ inr v) ∧ Inv (M 12) ∧ 0 ≤ M 11 1 ∧ M 11 1 ≤ 4), fun as M x M' => ∀ (o : Nat) (t : Int) (w : Int) (k : Int) (v : Int), as = [wR o, wI t, wI w, wI k, wI v] → ((¬ (wtT (M 12) t ∧ 0 ≤ k ∧ k < 6) ∧ x = -1 ∧ M = M') ∨ ((wtT (M 12) t ∧ 0 ≤ k ∧ k < 6) ∧ ¬ ((w = 0 ∨ w = 1) ∧ 0 ≤ v ∧ v ≤ 9) ∧ x = -2 ∧ M = M') ∨ ((wtT (M 12) t ∧ 0 ≤ k ∧ k < 6) ∧ ((w = 0 ∨ w = 1) ∧ 0 ≤ v ∧ v ≤ 9) ∧ ∃ g, Wn g (M 12) ∧ x = dbt (mnd g t w k v) t ∧ Chg M M' (mnd g t w k v) ∧ Fr M M' ∧ ∀ k, k ≠ 1 → M' 11 k = M 11 k)))
def sx_X7_mend : Sx := (tb_X7_mend, fdX7, kLX7, kIX7, sgX7, ntX7, [(152, (7, C_X7_isWaiting)), (124, (9, C_X7_isKind)), (92, (9, C_X7_in)), (32, (7, C_X7_changes)), (39, (9, C_X7_trunkAt)), (42, (9, C_X7_piecesOn)), (35, (9, C_X7_power)), (66, (7, C_X7_doubt))], 1)
set_option maxRecDepth 100000 in
set_option maxHeartbeats 1000000 in
theorem ok_X7_mend (L : Nat) (scr : Int → Int) (o : Nat) (t : Int) (w : Int) (k : Int) (v : Int) (M : Mem) (hp : o = 11 ∧ (inr t ∧ inr w ∧ inr k ∧ inr v) ∧ Inv (M 12) ∧ 0 ≤ M 11 1 ∧ M 11 1 ≤ 4) : Runs sx_X7_mend L (xcF scr) (fun x M' => (¬ (wtT (M 12) t ∧ 0 ≤ k ∧ k < 6) ∧ x = -1 ∧ M = M') ∨ ((wtT (M 12) t ∧ 0 ≤ k ∧ k < 6) ∧ ¬ ((w = 0 ∨ w = 1) ∧ 0 ≤ v ∧ v ≤ 9) ∧ x = -2 ∧ M = M') ∨ ((wtT (M 12) t ∧ 0 ≤ k ∧ k < 6) ∧ ((w = 0 ∨ w = 1) ∧ 0 ≤ v ∧ v ≤ 9) ∧ ∃ g, Wn g (M 12) ∧ x = dbt (mnd g t w k v) t ∧ Chg M M' (mnd g t w k v) ∧ Fr M M' ∧ ∀ k, k ≠ 1 → M' 11 k = M 11 k)) 0 [wR o, wI t, wI w, wI k, wI v, none] [] M := by
  obtain ⟨rfl, ⟨r1, r2, r3, r4⟩, I, hs⟩ := hp
  have i7 := I.2.1
  have iF := I.2.2.2.2.2.2.1
  by_cases hw4 : wtT (M 12) t
  · by_cases hk4 : 0 ≤ k ∧ k < 6
    · by_cases hp4 : 0 ≤ w ∧ w ≤ 1
      · by_cases hv4 : 0 ≤ v ∧ v ≤ 9
        · have ht : 0 ≤ t ∧ t < 64 := by have := hw4.1; omega
          refine R_aload_n (q := 1) (i := 0) rfl rfl rfl rfl ?_
          refine R_iload_n (q := 2) (i := 1) rfl rfl rfl rfl ?_
          refine R_cV1I (q := 5) (ci := 7) (C := C_X7_isWaiting) rfl rfl rfl rfl rfl ⟨_, _, rfl, ⟨rfl, r1, i7.2, fun t a b => (iF t a b).1⟩⟩ rfl rfl (by omega) (fun x M' hc => ?_)
          replace hc := hc _ _ rfl
          rw [if_pos (show (0 ≤ t ∧ t < M 12 7) ∧ M 12 (90 + 9 * t) = 0 from hw4)] at hc
          obtain ⟨rfl, rfl⟩ := hc
          refine R_if_eq (q := 8) (tgt := 15) rfl rfl (by decide) (by omega) (fun h5 => ?_) (fun h5 => ?_)
          · omega
          · refine R_iload_n (q := 9) (i := 3) rfl rfl rfl rfl ?_
            refine R_cS1I (q := 12) (ci := 9) (C := C_X7_isKind) rfl rfl rfl rfl rfl ⟨_, rfl, (by first | trivial | assumption | omega)⟩ rfl rfl (fun x M' hc => ?_)
            replace hc := hc _ rfl
            rw [if_pos hk4] at hc
            obtain ⟨rfl, rfl⟩ := hc
            refine R_if_ne (q := 15) (tgt := 17) rfl rfl (by decide) (by omega) (fun h12 => ?_) (fun h12 => ?_)
            · refine R_iload_n (q := 18) (i := 2) rfl rfl rfl rfl ?_
              refine R_i2l (q := 19) rfl rfl (by omega) ?_
              refine R_lconst (q := 20) (v := 0) rfl rfl rfl ?_
              refine R_lconst (q := 21) (v := 1) rfl rfl rfl ?_
              refine R_cS3I (q := 24) (ci := 9) (C := C_X7_in) rfl rfl rfl rfl rfl ⟨_, _, _, rfl, (by first | trivial | assumption | omega)⟩ rfl rfl (fun x M' hc => ?_)
              replace hc := hc _ _ _ rfl
              rw [if_pos hp4] at hc
              obtain ⟨rfl, rfl⟩ := hc
              refine R_if_eq (q := 27) (tgt := 40) rfl rfl (by decide) (by omega) (fun h24 => ?_) (fun h24 => ?_)
              · omega
              · refine R_iload (q := 29) rfl rfl rfl ?_
                refine R_i2l (q := 30) rfl rfl (by omega) ?_
                refine R_lconst (q := 31) (v := 0) rfl rfl rfl ?_
                refine R_ldc2 (q := 34) rfl rfl rfl ?_
                refine R_cS3I (q := 37) (ci := 9) (C := C_X7_in) rfl rfl rfl rfl rfl ⟨_, _, _, rfl, (by first | trivial | assumption | omega)⟩ rfl rfl (fun x M' hc => ?_)
                replace hc := hc _ _ _ rfl
                rw [if_pos hv4] at hc
                obtain ⟨rfl, rfl⟩ := hc
                refine R_if_ne (q := 40) (tgt := 43) rfl rfl (by decide) (by omega) (fun h37 => ?_) (fun h37 => ?_)
                · refine R_aload_n (q := 44) (i := 0) rfl rfl rfl rfl ?_
                  refine R_cV0N (q := 47) (ci := 7) (C := C_X7_changes) rfl rfl rfl rfl rfl ⟨_, rfl, ⟨rfl, hs⟩⟩ rfl rfl (by omega) (fun M' hc => ?_)
                  replace hc := hc _ rfl
                  obtain ⟨hC, hF, hK⟩ := hc
                  have I1 : Inv (M' 12) := Inv_win hC.1 I
                  have Im := mnd_Inv (w := w) I1 ht (by omega) hk4 hv4
                  have bd := I1.1.2.2.2 t ht.1 ht.2
                  have bw : 0 ≤ M' 12 (87 + 9 * t + w) ∧ M' 12 (87 + 9 * t + w) < 1000000 := by
                    have : w = 0 ∨ w = 1 := by omega
                    rcases this with rfl | rfl
                    · rw [Int.add_zero]
                      exact bd.2.1
                    · rw [show 87 + 9 * t + 1 = 88 + 9 * t by omega]
                      exact bd.2.2.1
                  refine R_iconst (q := 48) rfl rfl ?_
                  refine R_iload_n (q := 49) (i := 1) rfl rfl rfl rfl ?_
                  refine R_cS2I (q := 52) (ci := 9) (C := C_X7_trunkAt) rfl rfl rfl rfl rfl ⟨_, _, rfl, (by first | trivial | assumption | omega)⟩ rfl rfl (fun x M' hc => ?_)
                  replace hc := hc _ _ rfl
                  try simp only [sh_mr, mr_mr] at hc
                  obtain ⟨rfl, rfl⟩ := hc
                  refine R_iconst (q := 53) rfl rfl ?_
                  refine R_iadd (q := 54) rfl rfl ?_
                  refine R_iload_n (q := 55) (i := 2) rfl rfl rfl rfl ?_
                  refine R_iadd (q := 56) rfl rfl ?_
                  refine R_istore (q := 58) rfl rfl rfl ?_
                  refine R_aload_n (q := 59) (i := 0) rfl rfl rfl rfl ?_
                  refine R_getR (q := 62) rfl rfl rfl rfl rfl (by omega) ?_
                  refine R_iload (q := 64) rfl rfl rfl ?_
                  refine R_dup2 (q := 65) rfl rfl rfl rfl ?_
                  refine R_iald (q := 66) (v := M' 12 (87 + 9 * t + w)) rfl rfl rfl (by omega) (by omega) (congrArg (M' 12) (by omega)) ?_
                  refine R_iload (q := 68) rfl rfl rfl ?_
                  refine R_aload_n (q := 69) (i := 0) rfl rfl rfl rfl ?_
                  refine R_getR (q := 72) rfl rfl rfl rfl rfl (by omega) ?_
                  refine R_iload (q := 74) rfl rfl rfl ?_
                  refine R_iald (q := 75) (v := M' 12 (87 + 9 * t + w)) rfl rfl rfl (by omega) (by omega) (congrArg (M' 12) (by omega)) ?_
                  refine R_iload_n (q := 76) (i := 3) rfl rfl rfl rfl ?_
                  refine R_cS2I (q := 79) (ci := 9) (C := C_X7_piecesOn) rfl rfl rfl rfl rfl ⟨_, _, rfl, ⟨bw, hk4⟩⟩ rfl rfl (fun x M' hc => ?_)
                  replace hc := hc _ _ rfl
                  try simp only [sh_mr, mr_mr] at hc
                  obtain ⟨rfl, rfl⟩ := hc
                  refine R_isub (q := 80) rfl rfl ?_
                  refine R_iload_n (q := 81) (i := 3) rfl rfl rfl rfl ?_
                  refine R_cS1I (q := 84) (ci := 9) (C := C_X7_power) rfl rfl rfl rfl rfl ⟨_, rfl, (by first | trivial | assumption | omega)⟩ rfl rfl (fun x M' hc => ?_)
                  replace hc := hc _ rfl
                  try simp only [sh_mr, mr_mr] at hc
                  obtain ⟨rfl, rfl⟩ := hc
                  refine R_imul (q := 85) rfl rfl ?_
                  refine R_iadd (q := 86) rfl rfl ?_
                  refine R_iast (q := 87) (M2 := mr 0 M' (mnd (M' 12) t w k v)) rfl rfl rfl (by omega) (by omega) (by rw [up_sta, ← mr_0]; exact congrArg (mr 0 M') (us_at (by omega))) ?_
                  refine R_aload_n (q := 88) (i := 0) rfl rfl rfl rfl ?_
                  refine R_iconst (q := 89) rfl rfl ?_
                  refine R_iload_n (q := 90) (i := 1) rfl rfl rfl rfl ?_
                  refine R_cV2I (q := 93) (ci := 7) (C := C_X7_doubt) rfl rfl rfl rfl rfl ⟨_, _, _, rfl, ⟨rfl, by omega, ht, by rw [sh_mr]; exact Im.1⟩⟩ rfl rfl (by omega) (fun x M' hc => ?_)
                  replace hc := hc _ _ _ rfl
                  try simp only [sh_mr, mr_mr] at hc
                  obtain ⟨rfl, rfl⟩ := hc
                  refine R_ret rfl (Or.inl rfl) ?_
                  exact Or.inr (Or.inr ⟨⟨hw4, hk4⟩, ⟨by omega, hv4⟩, M' 12, hC.1, rfl, Chg_mr hC (fun j hj => us_n (by omega)), Fr_mr hF, fun k hk => by rw [mr_ne (by decide)]; exact hK k hk⟩)
                · omega
            · omega
        · refine R_aload_n (q := 1) (i := 0) rfl rfl rfl rfl ?_
          refine R_iload_n (q := 2) (i := 1) rfl rfl rfl rfl ?_
          refine R_cV1I (q := 5) (ci := 7) (C := C_X7_isWaiting) rfl rfl rfl rfl rfl ⟨_, _, rfl, ⟨rfl, r1, i7.2, fun t a b => (iF t a b).1⟩⟩ rfl rfl (by omega) (fun x M' hc => ?_)
          replace hc := hc _ _ rfl
          rw [if_pos (show (0 ≤ t ∧ t < M 12 7) ∧ M 12 (90 + 9 * t) = 0 from hw4)] at hc
          obtain ⟨rfl, rfl⟩ := hc
          refine R_if_eq (q := 8) (tgt := 15) rfl rfl (by decide) (by omega) (fun h5 => ?_) (fun h5 => ?_)
          · omega
          · refine R_iload_n (q := 9) (i := 3) rfl rfl rfl rfl ?_
            refine R_cS1I (q := 12) (ci := 9) (C := C_X7_isKind) rfl rfl rfl rfl rfl ⟨_, rfl, (by first | trivial | assumption | omega)⟩ rfl rfl (fun x M' hc => ?_)
            replace hc := hc _ rfl
            rw [if_pos hk4] at hc
            obtain ⟨rfl, rfl⟩ := hc
            refine R_if_ne (q := 15) (tgt := 17) rfl rfl (by decide) (by omega) (fun h12 => ?_) (fun h12 => ?_)
            · refine R_iload_n (q := 18) (i := 2) rfl rfl rfl rfl ?_
              refine R_i2l (q := 19) rfl rfl (by omega) ?_
              refine R_lconst (q := 20) (v := 0) rfl rfl rfl ?_
              refine R_lconst (q := 21) (v := 1) rfl rfl rfl ?_
              refine R_cS3I (q := 24) (ci := 9) (C := C_X7_in) rfl rfl rfl rfl rfl ⟨_, _, _, rfl, (by first | trivial | assumption | omega)⟩ rfl rfl (fun x M' hc => ?_)
              replace hc := hc _ _ _ rfl
              rw [if_pos hp4] at hc
              obtain ⟨rfl, rfl⟩ := hc
              refine R_if_eq (q := 27) (tgt := 40) rfl rfl (by decide) (by omega) (fun h24 => ?_) (fun h24 => ?_)
              · omega
              · refine R_iload (q := 29) rfl rfl rfl ?_
                refine R_i2l (q := 30) rfl rfl (by omega) ?_
                refine R_lconst (q := 31) (v := 0) rfl rfl rfl ?_
                refine R_ldc2 (q := 34) rfl rfl rfl ?_
                refine R_cS3I (q := 37) (ci := 9) (C := C_X7_in) rfl rfl rfl rfl rfl ⟨_, _, _, rfl, (by first | trivial | assumption | omega)⟩ rfl rfl (fun x M' hc => ?_)
                replace hc := hc _ _ _ rfl
                rw [if_neg hv4] at hc
                obtain ⟨rfl, rfl⟩ := hc
                refine R_if_ne (q := 40) (tgt := 43) rfl rfl (by decide) (by omega) (fun h37 => ?_) (fun h37 => ?_)
                · omega
                · refine R_bipush (q := 42) rfl rfl (by decide) ?_
                  refine R_ret rfl (Or.inl rfl) ?_
                  exact Or.inr (Or.inl ⟨⟨hw4, hk4⟩, fun z => hv4 z.2, rfl, rfl⟩)
            · omega
      · refine R_aload_n (q := 1) (i := 0) rfl rfl rfl rfl ?_
        refine R_iload_n (q := 2) (i := 1) rfl rfl rfl rfl ?_
        refine R_cV1I (q := 5) (ci := 7) (C := C_X7_isWaiting) rfl rfl rfl rfl rfl ⟨_, _, rfl, ⟨rfl, r1, i7.2, fun t a b => (iF t a b).1⟩⟩ rfl rfl (by omega) (fun x M' hc => ?_)
        replace hc := hc _ _ rfl
        rw [if_pos (show (0 ≤ t ∧ t < M 12 7) ∧ M 12 (90 + 9 * t) = 0 from hw4)] at hc
        obtain ⟨rfl, rfl⟩ := hc
        refine R_if_eq (q := 8) (tgt := 15) rfl rfl (by decide) (by omega) (fun h5 => ?_) (fun h5 => ?_)
        · omega
        · refine R_iload_n (q := 9) (i := 3) rfl rfl rfl rfl ?_
          refine R_cS1I (q := 12) (ci := 9) (C := C_X7_isKind) rfl rfl rfl rfl rfl ⟨_, rfl, (by first | trivial | assumption | omega)⟩ rfl rfl (fun x M' hc => ?_)
          replace hc := hc _ rfl
          rw [if_pos hk4] at hc
          obtain ⟨rfl, rfl⟩ := hc
          refine R_if_ne (q := 15) (tgt := 17) rfl rfl (by decide) (by omega) (fun h12 => ?_) (fun h12 => ?_)
          · refine R_iload_n (q := 18) (i := 2) rfl rfl rfl rfl ?_
            refine R_i2l (q := 19) rfl rfl (by omega) ?_
            refine R_lconst (q := 20) (v := 0) rfl rfl rfl ?_
            refine R_lconst (q := 21) (v := 1) rfl rfl rfl ?_
            refine R_cS3I (q := 24) (ci := 9) (C := C_X7_in) rfl rfl rfl rfl rfl ⟨_, _, _, rfl, (by first | trivial | assumption | omega)⟩ rfl rfl (fun x M' hc => ?_)
            replace hc := hc _ _ _ rfl
            rw [if_neg hp4] at hc
            obtain ⟨rfl, rfl⟩ := hc
            refine R_if_eq (q := 27) (tgt := 40) rfl rfl (by decide) (by omega) (fun h24 => ?_) (fun h24 => ?_)
            · refine R_bipush (q := 42) rfl rfl (by decide) ?_
              refine R_ret rfl (Or.inl rfl) ?_
              exact Or.inr (Or.inl ⟨⟨hw4, hk4⟩, fun z => hp4 (by omega), rfl, rfl⟩)
            · omega
          · omega
    · refine R_aload_n (q := 1) (i := 0) rfl rfl rfl rfl ?_
      refine R_iload_n (q := 2) (i := 1) rfl rfl rfl rfl ?_
      refine R_cV1I (q := 5) (ci := 7) (C := C_X7_isWaiting) rfl rfl rfl rfl rfl ⟨_, _, rfl, ⟨rfl, r1, i7.2, fun t a b => (iF t a b).1⟩⟩ rfl rfl (by omega) (fun x M' hc => ?_)
      replace hc := hc _ _ rfl
      rw [if_pos (show (0 ≤ t ∧ t < M 12 7) ∧ M 12 (90 + 9 * t) = 0 from hw4)] at hc
      obtain ⟨rfl, rfl⟩ := hc
      refine R_if_eq (q := 8) (tgt := 15) rfl rfl (by decide) (by omega) (fun h5 => ?_) (fun h5 => ?_)
      · omega
      · refine R_iload_n (q := 9) (i := 3) rfl rfl rfl rfl ?_
        refine R_cS1I (q := 12) (ci := 9) (C := C_X7_isKind) rfl rfl rfl rfl rfl ⟨_, rfl, (by first | trivial | assumption | omega)⟩ rfl rfl (fun x M' hc => ?_)
        replace hc := hc _ rfl
        rw [if_neg hk4] at hc
        obtain ⟨rfl, rfl⟩ := hc
        refine R_if_ne (q := 15) (tgt := 17) rfl rfl (by decide) (by omega) (fun h12 => ?_) (fun h12 => ?_)
        · omega
        · refine R_iconst (q := 16) rfl rfl ?_
          refine R_ret rfl (Or.inl rfl) ?_
          exact Or.inl ⟨fun z => hk4 z.2, rfl, rfl⟩
  · refine R_aload_n (q := 1) (i := 0) rfl rfl rfl rfl ?_
    refine R_iload_n (q := 2) (i := 1) rfl rfl rfl rfl ?_
    refine R_cV1I (q := 5) (ci := 7) (C := C_X7_isWaiting) rfl rfl rfl rfl rfl ⟨_, _, rfl, ⟨rfl, r1, i7.2, fun t a b => (iF t a b).1⟩⟩ rfl rfl (by omega) (fun x M' hc => ?_)
    replace hc := hc _ _ rfl
    rw [if_neg (show ¬ ((0 ≤ t ∧ t < M 12 7) ∧ M 12 (90 + 9 * t) = 0) from hw4)] at hc
    obtain ⟨rfl, rfl⟩ := hc
    refine R_if_eq (q := 8) (tgt := 15) rfl rfl (by decide) (by omega) (fun h5 => ?_) (fun h5 => ?_)
    · refine R_iconst (q := 16) rfl rfl ?_
      refine R_ret rfl (Or.inl rfl) ?_
      exact Or.inl ⟨fun z => hw4 z.1, rfl, rfl⟩
    · omega
set_option maxRecDepth 100000 in
theorem mt_X7_mend : MtOK yX7_mend cX7_mend 6 (some .int) 5 C_X7_mend := by
  refine mt_of sx_X7_mend (by decide +kernel) (Or.inl ⟨rfl, rfl, rfl⟩) (by decide +kernel) fdX7_ok kLX7_ok kIX7_ok sgX7_ok ntX7_ok
    (all_cons (clokV mt_X7_isWaiting rfl (GT_at 673 (by decide +kernel) (by decide +kernel)) (GT_at 44 (by decide +kernel) (by decide +kernel)) (GT_at 676 (by decide +kernel) (by decide +kernel)) (by decide +kernel) (by decide) (GT_at 675 (by decide +kernel) (by decide +kernel)) (GT_at 18 (by decide +kernel) (by decide +kernel)) rfl rfl) (all_cons (clokS mt_X7_isKind (GT_at 612 (by decide +kernel) (by decide +kernel)) (GT_at 44 (by decide +kernel) (by decide +kernel)) (GT_at 614 (by decide +kernel) (by decide +kernel)) (by decide +kernel) (by decide) (GT_at 613 (by decide +kernel) (by decide +kernel))) (all_cons (clokS mt_X7_in (GT_at 588 (by decide +kernel) (by decide +kernel)) (GT_at 44 (by decide +kernel) (by decide +kernel)) (GT_at 590 (by decide +kernel) (by decide +kernel)) (by decide +kernel) (by decide) (GT_at 589 (by decide +kernel) (by decide +kernel))) (all_cons (clokV mt_X7_changes rfl (GT_at 600 (by decide +kernel) (by decide +kernel)) (GT_at 44 (by decide +kernel) (by decide +kernel)) (GT_at 603 (by decide +kernel) (by decide +kernel)) (by decide +kernel) (by decide) (GT_at 602 (by decide +kernel) (by decide +kernel)) (GT_at 11 (by decide +kernel) (by decide +kernel)) rfl rfl) (all_cons (clokS mt_X7_trunkAt (GT_at 659 (by decide +kernel) (by decide +kernel)) (GT_at 44 (by decide +kernel) (by decide +kernel)) (GT_at 661 (by decide +kernel) (by decide +kernel)) (by decide +kernel) (by decide) (GT_at 660 (by decide +kernel) (by decide +kernel))) (all_cons (clokS mt_X7_piecesOn (GT_at 681 (by decide +kernel) (by decide +kernel)) (GT_at 44 (by decide +kernel) (by decide +kernel)) (GT_at 683 (by decide +kernel) (by decide +kernel)) (by decide +kernel) (by decide) (GT_at 682 (by decide +kernel) (by decide +kernel))) (all_cons (clokS mt_X7_power (GT_at 652 (by decide +kernel) (by decide +kernel)) (GT_at 44 (by decide +kernel) (by decide +kernel)) (GT_at 654 (by decide +kernel) (by decide +kernel)) (by decide +kernel) (by decide) (GT_at 653 (by decide +kernel) (by decide +kernel))) (all_cons (clokV mt_X7_doubt rfl (GT_at 684 (by decide +kernel) (by decide +kernel)) (GT_at 44 (by decide +kernel) (by decide +kernel)) (GT_at 687 (by decide +kernel) (by decide +kernel)) (by decide +kernel) (by decide) (GT_at 686 (by decide +kernel) (by decide +kernel)) (GT_at 20 (by decide +kernel) (by decide +kernel)) rfl rfl) (all_nil))))))))) ?_ ?_
  · rintro as M - ⟨o, t, w, k, v, rfl, hp⟩
    exact Nat.le_of_ble_eq_true rfl
  · rintro L scr as M - ⟨o, t, w, k, v, rfl, hp⟩
    exact Runs.mono (fun x M' h _ _ _ _ _ e => by cases e; exact h) (ok_X7_mend L scr o t w k v M hp)
def sbk (f : Int → Int) (t : Int) : Int → Int := us (us (rmv f (dko f t 3) (plD f (dko f t 3) t)) (90 + 9 * t) 3) 10 (f 10 + 1)
theorem sbk_o {f : Int → Int} {t d p j : Int} (hd : 0 ≤ d ∧ d < 3) (hp : 0 ≤ p) (hm : f (27 + 4 * d) ≤ 16) (h1 : j ≠ 27 + 4 * d) (h2 : j < 38 ∨ 86 ≤ j) (h3 : j ≠ 90 + 9 * t) (h4 : j ≠ 10) : us (us (rmv f d p) (90 + 9 * t) 3) 10 (f 10 + 1) j = f j := by
  rw [us_n h4, us_n h3, rmv_o hd hp hm h1 h2]
theorem sbk_Inv {f : Int → Int} {t : Int} (I : Inv f) (hw : wtT f t) : Inv (sbk f t) := by
  obtain ⟨d, p, q, hq⟩ := ((I.2.2.2.2.2.2.1 t hw.1.1 hw.1.2).2.2 hw.2).2
  obtain ⟨e1, e2⟩ := I.at q hq
  have e3 := e1 d q.1 q.2.1
  rw [if_pos rfl] at e3
  unfold sbk
  rw [e2, e3]
  have hle := fun e a b => I.le (d := e) a b
  have m16 := (hle d q.1 q.2.1).2
  have hd : 0 ≤ d ∧ d < 3 := ⟨q.1, q.2.1⟩
  have q3 := q.2.2.1
  have q4 := q.2.2.2
  have i7 := I.2.1
  have hw1 := hw.1
  have o : ∀ j, j ≠ 27 + 4 * d → (j < 38 ∨ 86 ≤ j) → j ≠ 90 + 9 * t → j ≠ 10 → us (us (rmv f d p) (90 + 9 * t) 3) 10 (f 10 + 1) j = f j := fun j a b c e => sbk_o hd q3 m16 a b c e
  refine Inv_pass (w := 3) (m := 0) I hd (by omega) (by omega) (by omega) p ⟨q3, q4⟩ ?_ (o 6 (by omega) (by omega) (by omega) (by omega)) (o 7 (by omega) (by omega) (by omega) (by omega)) (fun e a b => o _ (by omega) (by omega) (by omega) (by omega)) (fun e a b => ?_) (fun e p' a b c z => ?_) (fun s a b => ?_) (fun s a b => ?_) ?_ ?_ ?_ ?_
  · exact Bd_keep I.1 (fun j _ _ => o j (by omega) (by omega) (by omega) (by omega)) (fun j _ _ => o j (by omega) (by omega) (by omega) (by omega)) (fun s _ _ => ⟨o _ (by omega) (by omega) (by omega) (by omega), o _ (by omega) (by omega) (by omega) (by omega), o _ (by omega) (by omega) (by omega) (by omega), o _ (by omega) (by omega) (by omega) (by omega)⟩)
  · rw [us_n (by omega), us_n (by omega), rmv_l hd ⟨a, b⟩ q3]
  · have y := hle e a b
    have y2 := bt_01 (e = d)
    rw [us_n (by omega), us_n (by omega), rmv_q hd ⟨a, b⟩ c q3 hle z]
  · rw [us_n (by omega), hq]
    by_cases e : s = t
    · subst e
      rw [us_s, if_pos rfl]
    · rw [us_n (by omega), if_neg e, rmv_o hd q3 m16 (by omega) (by omega)]
  · rw [o _ (by omega) (by omega) (by omega) (by omega), hq]
    by_cases e : s = t
    · rw [if_pos e, e]
      exact ((I.2.2.2.2.2.2.1 t hw.1.1 hw.1.2).2.2 hw.2).1
    · rw [if_neg e]
  · rw [o 8 (by omega) (by omega) (by omega) (by omega), bt_f (by omega)]
    omega
  · rw [o 9 (by omega) (by omega) (by omega) (by omega), bt_f (by omega)]
    omega
  · rw [us_s, bt_t rfl]
  · rw [o 14 (by omega) (by omega) (by omega) (by omega), bt_f (by omega)]
    omega
abbrev C_X7_sendBack : Ct := (2, true, fun as M => ∃ (o : Nat) (t : Int), as = [wR o, wI t] ∧ (o = 11 ∧ inr t ∧ Inv (M 12) ∧ 0 ≤ M 11 1 ∧ M 11 1 ≤ 4), fun as M x M' => ∀ (o : Nat) (t : Int), as = [wR o, wI t] → ((¬ wtT (M 12) t ∧ x = -1 ∧ M = M') ∨ (wtT (M 12) t ∧ ∃ g, Wn g (M 12) ∧ x = g (91 + 9 * t) ∧ Chg M M' (sbk g t) ∧ Fr M M' ∧ ∀ k, k ≠ 1 → M' 11 k = M 11 k)))
def sx_X7_sendBack : Sx := (tb_X7_sendBack, fdX7, kLX7, kIX7, sgX7, ntX7, [(152, (7, C_X7_isWaiting)), (32, (7, C_X7_changes)), (155, (7, C_X7_deskOf)), (102, (7, C_X7_placeIn)), (69, (7, C_X7_removes)), (39, (9, C_X7_trunkAt))], 1)
set_option maxRecDepth 100000 in
set_option maxHeartbeats 1000000 in
theorem ok_X7_sendBack (L : Nat) (scr : Int → Int) (o : Nat) (t : Int) (M : Mem) (hp : o = 11 ∧ inr t ∧ Inv (M 12) ∧ 0 ≤ M 11 1 ∧ M 11 1 ≤ 4) : Runs sx_X7_sendBack L (xcF scr) (fun x M' => (¬ wtT (M 12) t ∧ x = -1 ∧ M = M') ∨ (wtT (M 12) t ∧ ∃ g, Wn g (M 12) ∧ x = g (91 + 9 * t) ∧ Chg M M' (sbk g t) ∧ Fr M M' ∧ ∀ k, k ≠ 1 → M' 11 k = M 11 k)) 0 [wR o, wI t, none] [] M := by
  obtain ⟨rfl, r1, I, hs⟩ := hp
  have i7 := I.2.1
  have iF := I.2.2.2.2.2.2.1
  by_cases hw4 : wtT (M 12) t
  · have ht : 0 ≤ t ∧ t < 64 := by have := hw4.1; omega
    refine R_aload_n (q := 1) (i := 0) rfl rfl rfl rfl ?_
    refine R_iload_n (q := 2) (i := 1) rfl rfl rfl rfl ?_
    refine R_cV1I (q := 5) (ci := 7) (C := C_X7_isWaiting) rfl rfl rfl rfl rfl ⟨_, _, rfl, ⟨rfl, r1, i7.2, fun t a b => (iF t a b).1⟩⟩ rfl rfl (by omega) (fun x M' hc => ?_)
    replace hc := hc _ _ rfl
    rw [if_pos (show (0 ≤ t ∧ t < M 12 7) ∧ M 12 (90 + 9 * t) = 0 from hw4)] at hc
    obtain ⟨rfl, rfl⟩ := hc
    refine R_if_ne (q := 8) (tgt := 10) rfl rfl (by decide) (by omega) (fun h5 => ?_) (fun h5 => ?_)
    · refine R_aload_n (q := 11) (i := 0) rfl rfl rfl rfl ?_
      refine R_cV0N (q := 14) (ci := 7) (C := C_X7_changes) rfl rfl rfl rfl rfl ⟨_, rfl, ⟨rfl, hs⟩⟩ rfl rfl (by omega) (fun M' hc => ?_)
      replace hc := hc _ rfl
      obtain ⟨hC, hF, hK⟩ := hc
      have I1 : Inv (M' 12) := Inv_win hC.1 I
      have hw1 : wtT (M' 12) t := ⟨by rw [hC.1 7 (by omega) (by omega)]; exact hw4.1, by rw [hC.1 _ (by omega) (by omega)]; exact hw4.2⟩
      obtain ⟨d, p, q, hq⟩ := ((I1.2.2.2.2.2.2.1 t hw1.1.1 hw1.1.2).2.2 hw1.2).2
      obtain ⟨e1, e2⟩ := I1.at q hq
      have e3 := e1 d q.1 q.2.1
      rw [if_pos rfl] at e3
      have q1 := q.1
      have q2 := q.2.1
      have q3 := q.2.2.1
      have q4 := q.2.2.2
      have m16 := (I1.le q1 q2).2
      refine R_aload_n (q := 15) (i := 0) rfl rfl rfl rfl ?_
      refine R_iload_n (q := 16) (i := 1) rfl rfl rfl rfl ?_
      refine R_cV1I (q := 19) (ci := 7) (C := C_X7_deskOf) rfl rfl rfl rfl rfl ⟨_, _, rfl, ⟨rfl, r1, I1⟩⟩ rfl rfl (by omega) (fun x M' hc => ?_)
      replace hc := hc _ _ rfl
      rw [e2] at hc
      obtain ⟨rfl, rfl⟩ := hc
      refine R_istore_n (q := 20) (i := 2) rfl rfl rfl rfl ?_
      refine R_aload_n (q := 21) (i := 0) rfl rfl rfl rfl ?_
      refine R_iconst (q := 22) rfl rfl ?_
      refine R_iload_n (q := 23) (i := 2) rfl rfl rfl rfl ?_
      refine R_aload_n (q := 24) (i := 0) rfl rfl rfl rfl ?_
      refine R_iload_n (q := 25) (i := 2) rfl rfl rfl rfl ?_
      refine R_iload_n (q := 26) (i := 1) rfl rfl rfl rfl ?_
      refine R_cV2I (q := 29) (ci := 7) (C := C_X7_placeIn) rfl rfl rfl rfl rfl ⟨_, _, _, rfl, ⟨rfl, ⟨q1, q2⟩, r1, I1⟩⟩ rfl rfl (by omega) (fun x M' hc => ?_)
      replace hc := hc _ _ _ rfl
      rw [e3] at hc
      obtain ⟨rfl, rfl⟩ := hc
      refine R_cV3N (q := 32) (ci := 7) (C := C_X7_removes) rfl rfl rfl rfl rfl ⟨_, _, _, _, rfl, ⟨rfl, by omega, ⟨q1, q2⟩, by rw [sh_0]; omega⟩⟩ rfl rfl (by omega) (fun M' hc => ?_)
      replace hc := hc _ _ _ _ rfl
      rw [sh_0] at hc
      subst hc
      refine R_aload_n (q := 33) (i := 0) rfl rfl rfl rfl ?_
      refine R_getR (q := 36) rfl rfl rfl rfl rfl (by omega) ?_
      refine R_iconst (q := 37) rfl rfl ?_
      refine R_iload_n (q := 38) (i := 1) rfl rfl rfl rfl ?_
      refine R_cS2I (q := 41) (ci := 9) (C := C_X7_trunkAt) rfl rfl rfl rfl rfl ⟨_, _, rfl, (by first | trivial | assumption | omega)⟩ rfl rfl (fun x M' hc => ?_)
      replace hc := hc _ _ rfl
      try simp only [sh_mr, mr_mr] at hc
      obtain ⟨rfl, rfl⟩ := hc
      refine R_iconst (q := 42) rfl rfl ?_
      refine R_iadd (q := 43) rfl rfl ?_
      refine R_iconst (q := 44) rfl rfl ?_
      refine R_iast (q := 45) (M2 := mr 0 M' (us (rmv (M' 12) d p) (90 + 9 * t) 3)) rfl rfl rfl (by omega) (by omega) (upmr (by omega)) ?_
      refine R_aload_n (q := 46) (i := 0) rfl rfl rfl rfl ?_
      refine R_getR (q := 49) rfl rfl rfl rfl rfl (by omega) ?_
      refine R_bipush (q := 51) rfl rfl (by decide) ?_
      refine R_dup2 (q := 52) rfl rfl rfl rfl ?_
      refine R_iald (q := 53) (v := M' 12 10) rfl rfl rfl (by omega) (by omega) (Eq.trans (rdmr (j := 10) (by omega)) (Eq.trans (us_n (by omega)) (rmv_o ⟨q1, q2⟩ q3 m16 (by omega) (by omega)))) ?_
      refine R_iconst (q := 54) rfl rfl ?_
      refine R_iadd (q := 55) rfl rfl ?_
      refine R_iast (q := 56) (M2 := mr 0 M' (us (us (rmv (M' 12) d p) (90 + 9 * t) 3) 10 (M' 12 10 + 1))) rfl rfl rfl (by omega) (by omega) (upmr (by omega)) ?_
      refine R_aload_n (q := 57) (i := 0) rfl rfl rfl rfl ?_
      refine R_getR (q := 60) rfl rfl rfl rfl rfl (by omega) ?_
      refine R_iconst (q := 61) rfl rfl ?_
      refine R_iload_n (q := 62) (i := 1) rfl rfl rfl rfl ?_
      refine R_cS2I (q := 65) (ci := 9) (C := C_X7_trunkAt) rfl rfl rfl rfl rfl ⟨_, _, rfl, (by first | trivial | assumption | omega)⟩ rfl rfl (fun x M' hc => ?_)
      replace hc := hc _ _ rfl
      try simp only [sh_mr, mr_mr] at hc
      obtain ⟨rfl, rfl⟩ := hc
      refine R_iconst (q := 66) rfl rfl ?_
      refine R_iadd (q := 67) rfl rfl ?_
      refine R_iald (q := 68) (v := M' 12 (91 + 9 * t)) rfl rfl rfl (by omega) (by omega) (Eq.trans (rdmr (j := 91 + 9 * t) (by omega)) (sbk_o ⟨q1, q2⟩ q3 m16 (by omega) (by omega) (by omega) (by omega))) ?_
      refine R_ret rfl (Or.inl rfl) ?_
      have es : us (us (rmv (M' 12) d p) (90 + 9 * t) 3) 10 (M' 12 10 + 1) = sbk (M' 12) t := by
        unfold sbk
        rw [e2, e3]
      refine Or.inr ⟨hw4, M' 12, hC.1, rfl, ?_, Fr_mr hF, fun k hk => by rw [mr_ne (by decide)]; exact hK k hk⟩
      rw [es]
      refine Chg_mr hC (fun j hj => ?_)
      rw [← es]
      exact sbk_o ⟨q1, q2⟩ q3 m16 (by omega) (by omega) (by omega) (by omega)
    · omega
  · refine R_aload_n (q := 1) (i := 0) rfl rfl rfl rfl ?_
    refine R_iload_n (q := 2) (i := 1) rfl rfl rfl rfl ?_
    refine R_cV1I (q := 5) (ci := 7) (C := C_X7_isWaiting) rfl rfl rfl rfl rfl ⟨_, _, rfl, ⟨rfl, r1, i7.2, fun t a b => (iF t a b).1⟩⟩ rfl rfl (by omega) (fun x M' hc => ?_)
    replace hc := hc _ _ rfl
    rw [if_neg (show ¬ ((0 ≤ t ∧ t < M 12 7) ∧ M 12 (90 + 9 * t) = 0) from hw4)] at hc
    obtain ⟨rfl, rfl⟩ := hc
    refine R_if_ne (q := 8) (tgt := 10) rfl rfl (by decide) (by omega) (fun h5 => ?_) (fun h5 => ?_)
    · omega
    · refine R_iconst (q := 9) rfl rfl ?_
      refine R_ret rfl (Or.inl rfl) ?_
      exact Or.inl ⟨hw4, rfl, rfl⟩
set_option maxRecDepth 100000 in
theorem mt_X7_sendBack : MtOK yX7_sendBack cX7_sendBack 3 (some .int) 3 C_X7_sendBack := by
  refine mt_of sx_X7_sendBack (by decide +kernel) (Or.inl ⟨rfl, rfl, rfl⟩) (by decide +kernel) fdX7_ok kLX7_ok kIX7_ok sgX7_ok ntX7_ok
    (all_cons (clokV mt_X7_isWaiting rfl (GT_at 673 (by decide +kernel) (by decide +kernel)) (GT_at 44 (by decide +kernel) (by decide +kernel)) (GT_at 676 (by decide +kernel) (by decide +kernel)) (by decide +kernel) (by decide) (GT_at 675 (by decide +kernel) (by decide +kernel)) (GT_at 18 (by decide +kernel) (by decide +kernel)) rfl rfl) (all_cons (clokV mt_X7_changes rfl (GT_at 600 (by decide +kernel) (by decide +kernel)) (GT_at 44 (by decide +kernel) (by decide +kernel)) (GT_at 603 (by decide +kernel) (by decide +kernel)) (by decide +kernel) (by decide) (GT_at 602 (by decide +kernel) (by decide +kernel)) (GT_at 11 (by decide +kernel) (by decide +kernel)) rfl rfl) (all_cons (clokV mt_X7_deskOf rfl (GT_at 700 (by decide +kernel) (by decide +kernel)) (GT_at 44 (by decide +kernel) (by decide +kernel)) (GT_at 703 (by decide +kernel) (by decide +kernel)) (by decide +kernel) (by decide) (GT_at 702 (by decide +kernel) (by decide +kernel)) (GT_at 23 (by decide +kernel) (by decide +kernel)) rfl rfl) (all_cons (clokV mt_X7_placeIn rfl (GT_at 704 (by decide +kernel) (by decide +kernel)) (GT_at 44 (by decide +kernel) (by decide +kernel)) (GT_at 707 (by decide +kernel) (by decide +kernel)) (by decide +kernel) (by decide) (GT_at 706 (by decide +kernel) (by decide +kernel)) (GT_at 24 (by decide +kernel) (by decide +kernel)) rfl rfl) (all_cons (clokV mt_X7_removes rfl (GT_at 708 (by decide +kernel) (by decide +kernel)) (GT_at 44 (by decide +kernel) (by decide +kernel)) (GT_at 711 (by decide +kernel) (by decide +kernel)) (by decide +kernel) (by decide) (GT_at 710 (by decide +kernel) (by decide +kernel)) (GT_at 25 (by decide +kernel) (by decide +kernel)) rfl rfl) (all_cons (clokS mt_X7_trunkAt (GT_at 659 (by decide +kernel) (by decide +kernel)) (GT_at 44 (by decide +kernel) (by decide +kernel)) (GT_at 661 (by decide +kernel) (by decide +kernel)) (by decide +kernel) (by decide) (GT_at 660 (by decide +kernel) (by decide +kernel))) (all_nil))))))) ?_ ?_
  · rintro as M - ⟨o, t, rfl, hp⟩
    exact Nat.le_of_ble_eq_true rfl
  · rintro L scr as M - ⟨o, t, rfl, hp⟩
    exact Runs.mono (fun x M' h _ _ e => by cases e; exact h) (ok_X7_sendBack L scr o t M hp)
abbrev C_X7_turn : Ct := (2, true, fun as M => ∃ (o : Nat) (n : Int), as = [wR o, wI n] ∧ (o = 11 ∧ inr n ∧ Inv (M 12) ∧ M 12 6 ≤ 9999 ∧ 0 ≤ M 11 1 ∧ M 11 1 ≤ 4), fun as M x M' => ∀ (o : Nat) (n : Int), as = [wR o, wI n] → ((¬ (1 ≤ n ∧ n ≤ 99) ∧ x = -2 ∧ M = M') ∨ ((1 ≤ n ∧ n ≤ 99) ∧ 9999 < M 12 6 + n ∧ x = -4 ∧ M = M') ∨ ((1 ≤ n ∧ n ≤ 99) ∧ M 12 6 + n ≤ 9999 ∧ ∃ g, Wn g (M 12) ∧ x = psn n.toNat g ∧ Chg M M' (tnN n.toNat g) ∧ Fr M M' ∧ ∀ k, k ≠ 1 → M' 11 k = M 11 k)))
def sx_X7_turn : Sx := (tb_X7_turn, fdX7, kLX7, kIX7, sgX7, ntX7, [(92, (9, C_X7_in)), (32, (7, C_X7_changes)), (160, (7, C_X7_turnsBy))], 1)
set_option maxRecDepth 100000 in
set_option maxHeartbeats 1000000 in
theorem ok_X7_turn (L : Nat) (scr : Int → Int) (o : Nat) (n : Int) (M : Mem) (hp : o = 11 ∧ inr n ∧ Inv (M 12) ∧ M 12 6 ≤ 9999 ∧ 0 ≤ M 11 1 ∧ M 11 1 ≤ 4) : Runs sx_X7_turn L (xcF scr) (fun x M' => (¬ (1 ≤ n ∧ n ≤ 99) ∧ x = -2 ∧ M = M') ∨ ((1 ≤ n ∧ n ≤ 99) ∧ 9999 < M 12 6 + n ∧ x = -4 ∧ M = M') ∨ ((1 ≤ n ∧ n ≤ 99) ∧ M 12 6 + n ≤ 9999 ∧ ∃ g, Wn g (M 12) ∧ x = psn n.toNat g ∧ Chg M M' (tnN n.toNat g) ∧ Fr M M' ∧ ∀ k, k ≠ 1 → M' 11 k = M 11 k)) 0 [wR o, wI n] [] M := by
  obtain ⟨rfl, r1, I, h9, hs⟩ := hp
  have i7 := I.2.1
  by_cases hn : 1 ≤ n ∧ n ≤ 99
  · by_cases hz : 9999 < M 12 6 + n
    · refine R_iload_n (q := 1) (i := 1) rfl rfl rfl rfl ?_
      refine R_i2l (q := 2) rfl rfl (by omega) ?_
      refine R_lconst (q := 3) (v := 1) rfl rfl rfl ?_
      refine R_ldc2 (q := 6) rfl rfl rfl ?_
      refine R_cS3I (q := 9) (ci := 9) (C := C_X7_in) rfl rfl rfl rfl rfl ⟨_, _, _, rfl, (by first | trivial | assumption | omega)⟩ rfl rfl (fun x M' hc => ?_)
      replace hc := hc _ _ _ rfl
      rw [if_pos hn] at hc
      obtain ⟨rfl, rfl⟩ := hc
      refine R_if_ne (q := 12) (tgt := 15) rfl rfl (by decide) (by omega) (fun h9 => ?_) (fun h9 => ?_)
      · refine R_aload_n (q := 16) (i := 0) rfl rfl rfl rfl ?_
        refine R_getR (q := 19) rfl rfl rfl rfl rfl (by omega) ?_
        refine R_bipush (q := 21) rfl rfl (by decide) ?_
        refine R_iald (q := 22) rfl rfl rfl (by omega) (by omega) rfl ?_
        refine R_iload_n (q := 23) (i := 1) rfl rfl rfl rfl ?_
        refine R_iadd (q := 24) rfl rfl ?_
        refine R_sipush (q := 27) rfl rfl (by decide) ?_
        refine R_icmp_le (q := 30) (tgt := 33) rfl rfl (by decide) (by omega) (by omega) (fun h27 => ?_) (fun h27 => ?_)
        · omega
        · refine R_bipush (q := 32) rfl rfl (by decide) ?_
          refine R_ret rfl (Or.inl rfl) ?_
          exact Or.inr (Or.inl ⟨hn, hz, rfl, rfl⟩)
      · omega
    · refine R_iload_n (q := 1) (i := 1) rfl rfl rfl rfl ?_
      refine R_i2l (q := 2) rfl rfl (by omega) ?_
      refine R_lconst (q := 3) (v := 1) rfl rfl rfl ?_
      refine R_ldc2 (q := 6) rfl rfl rfl ?_
      refine R_cS3I (q := 9) (ci := 9) (C := C_X7_in) rfl rfl rfl rfl rfl ⟨_, _, _, rfl, (by first | trivial | assumption | omega)⟩ rfl rfl (fun x M' hc => ?_)
      replace hc := hc _ _ _ rfl
      rw [if_pos hn] at hc
      obtain ⟨rfl, rfl⟩ := hc
      refine R_if_ne (q := 12) (tgt := 15) rfl rfl (by decide) (by omega) (fun h9 => ?_) (fun h9 => ?_)
      · refine R_aload_n (q := 16) (i := 0) rfl rfl rfl rfl ?_
        refine R_getR (q := 19) rfl rfl rfl rfl rfl (by omega) ?_
        refine R_bipush (q := 21) rfl rfl (by decide) ?_
        refine R_iald (q := 22) rfl rfl rfl (by omega) (by omega) rfl ?_
        refine R_iload_n (q := 23) (i := 1) rfl rfl rfl rfl ?_
        refine R_iadd (q := 24) rfl rfl ?_
        refine R_sipush (q := 27) rfl rfl (by decide) ?_
        refine R_icmp_le (q := 30) (tgt := 33) rfl rfl (by decide) (by omega) (by omega) (fun h27 => ?_) (fun h27 => ?_)
        · refine R_aload_n (q := 34) (i := 0) rfl rfl rfl rfl ?_
          refine R_cV0N (q := 37) (ci := 7) (C := C_X7_changes) rfl rfl rfl rfl rfl ⟨_, rfl, ⟨rfl, hs⟩⟩ rfl rfl (by omega) (fun M' hc => ?_)
          replace hc := hc _ rfl
          obtain ⟨hC, hF, hK⟩ := hc
          have I1 : Inv (M' 12) := Inv_win hC.1 I
          refine R_aload_n (q := 38) (i := 0) rfl rfl rfl rfl ?_
          refine R_iconst (q := 39) rfl rfl ?_
          refine R_iload_n (q := 40) (i := 1) rfl rfl rfl rfl ?_
          refine R_cV2I (q := 43) (ci := 7) (C := C_X7_turnsBy) rfl rfl rfl rfl rfl ⟨_, _, _, rfl, ⟨rfl, by omega, by rw [sh_0]; exact I1, by omega⟩⟩ rfl rfl (by omega) (fun x M' hc => ?_)
          replace hc := hc _ _ _ rfl
          rw [sh_0] at hc
          obtain ⟨rfl, rfl⟩ := hc
          refine R_ret rfl (Or.inl rfl) ?_
          exact Or.inr (Or.inr ⟨hn, by omega, M' 12, hC.1, rfl, Chg_mr hC (Out_tnN n.toNat I1 (fun _ _ => rfl)), Fr_mr hF, fun k hk => by rw [mr_ne (by decide)]; exact hK k hk⟩)
        · omega
      · omega
  · refine R_iload_n (q := 1) (i := 1) rfl rfl rfl rfl ?_
    refine R_i2l (q := 2) rfl rfl (by omega) ?_
    refine R_lconst (q := 3) (v := 1) rfl rfl rfl ?_
    refine R_ldc2 (q := 6) rfl rfl rfl ?_
    refine R_cS3I (q := 9) (ci := 9) (C := C_X7_in) rfl rfl rfl rfl rfl ⟨_, _, _, rfl, (by first | trivial | assumption | omega)⟩ rfl rfl (fun x M' hc => ?_)
    replace hc := hc _ _ _ rfl
    rw [if_neg hn] at hc
    obtain ⟨rfl, rfl⟩ := hc
    refine R_if_ne (q := 12) (tgt := 15) rfl rfl (by decide) (by omega) (fun h9 => ?_) (fun h9 => ?_)
    · omega
    · refine R_bipush (q := 14) rfl rfl (by decide) ?_
      refine R_ret rfl (Or.inl rfl) ?_
      exact Or.inl ⟨hn, rfl, rfl⟩
set_option maxRecDepth 100000 in
theorem mt_X7_turn : MtOK yX7_turn cX7_turn 2 (some .int) 8 C_X7_turn := by
  refine mt_of sx_X7_turn (by decide +kernel) (Or.inl ⟨rfl, rfl, rfl⟩) (by decide +kernel) fdX7_ok kLX7_ok kIX7_ok sgX7_ok ntX7_ok
    (all_cons (clokS mt_X7_in (GT_at 588 (by decide +kernel) (by decide +kernel)) (GT_at 44 (by decide +kernel) (by decide +kernel)) (GT_at 590 (by decide +kernel) (by decide +kernel)) (by decide +kernel) (by decide) (GT_at 589 (by decide +kernel) (by decide +kernel))) (all_cons (clokV mt_X7_changes rfl (GT_at 600 (by decide +kernel) (by decide +kernel)) (GT_at 44 (by decide +kernel) (by decide +kernel)) (GT_at 603 (by decide +kernel) (by decide +kernel)) (by decide +kernel) (by decide) (GT_at 602 (by decide +kernel) (by decide +kernel)) (GT_at 11 (by decide +kernel) (by decide +kernel)) rfl rfl) (all_cons (clokV mt_X7_turnsBy rfl (GT_at 717 (by decide +kernel) (by decide +kernel)) (GT_at 44 (by decide +kernel) (by decide +kernel)) (GT_at 720 (by decide +kernel) (by decide +kernel)) (by decide +kernel) (by decide) (GT_at 719 (by decide +kernel) (by decide +kernel)) (GT_at 26 (by decide +kernel) (by decide +kernel)) rfl rfl) (all_nil)))) ?_ ?_
  · rintro as M - ⟨o, n, rfl, hp⟩
    exact Nat.le_of_ble_eq_true rfl
  · rintro L scr as M - ⟨o, n, rfl, hp⟩
    exact Runs.mono (fun x M' h _ _ e => by cases e; exact h) (ok_X7_turn L scr o n M hp)
