theorem us_c {f : Int → Int} {i j x y : Int} (h : i ≠ j) : us (us f i x) j y = us (us f j y) i x := by
  funext k
  unfold us
  by_cases h1 : k = j
  · by_cases h2 : k = i
    · omega
    · rw [if_pos h1, if_neg h2, if_pos h1]
  · by_cases h2 : k = i
    · rw [if_neg h1, if_pos h2, if_pos h2]
    · rw [if_neg h1, if_neg h2, if_neg h2, if_neg h1]
theorem us_us {f : Int → Int} {i x y : Int} : us (us f i x) i y = us f i y := by
  funext k
  unfold us
  by_cases h1 : k = i
  · rw [if_pos h1, if_pos h1]
  · rw [if_neg h1, if_neg h1, if_neg h1]
theorem us_self {f : Int → Int} {i x : Int} (h : f i = x) : us f i x = f := by
  funext k
  unfold us
  by_cases h1 : k = i
  · subst h1; rw [if_pos rfl, h]
  · rw [if_neg h1]
def fP (f : Int → Int) (t : Int) : Nat → Int
  | 0 => 0
  | n + 1 => fP f t n + ms f t (n : Int) * p2 (n : Int)
def fC (f : Int → Int) (t : Int) : Nat → Int
  | 0 => 0
  | n + 1 => fC f t n + ms f t (n : Int)
def opP (f : Int → Int) (t : Int) (n : Nat) : Int → Int := us (us (us f (93 + 9 * t) (fP f t n)) (91 + 9 * t) (f (91 + 9 * t) + f 2 * fC f t n)) 12 (f 12 + f 2 * fC f t n)
theorem fP_bd (f : Int → Int) (t : Int) : ∀ n, n < 6 → 0 ≤ fP f t n ∧ fP f t n < p2 (n : Int)
  | 0, _ => by show 0 ≤ (0 : Int) ∧ (0 : Int) < 1; omega
  | 1, _ => by
    have h0 := ms_01 f t 0
    show 0 ≤ 0 + ms f t 0 * 1 ∧ 0 + ms f t 0 * 1 < 2
    omega
  | 2, _ => by
    have h0 := ms_01 f t 0
    have h1 := ms_01 f t 1
    show 0 ≤ 0 + ms f t 0 * 1 + ms f t 1 * 2 ∧ 0 + ms f t 0 * 1 + ms f t 1 * 2 < 4
    omega
  | 3, _ => by
    have h0 := ms_01 f t 0
    have h1 := ms_01 f t 1
    have h2 := ms_01 f t 2
    show 0 ≤ 0 + ms f t 0 * 1 + ms f t 1 * 2 + ms f t 2 * 4 ∧ 0 + ms f t 0 * 1 + ms f t 1 * 2 + ms f t 2 * 4 < 8
    omega
  | 4, _ => by
    have h0 := ms_01 f t 0
    have h1 := ms_01 f t 1
    have h2 := ms_01 f t 2
    have h3 := ms_01 f t 3
    show 0 ≤ 0 + ms f t 0 * 1 + ms f t 1 * 2 + ms f t 2 * 4 + ms f t 3 * 8 ∧ 0 + ms f t 0 * 1 + ms f t 1 * 2 + ms f t 2 * 4 + ms f t 3 * 8 < 16
    omega
  | 5, _ => by
    have h0 := ms_01 f t 0
    have h1 := ms_01 f t 1
    have h2 := ms_01 f t 2
    have h3 := ms_01 f t 3
    have h4 := ms_01 f t 4
    show 0 ≤ 0 + ms f t 0 * 1 + ms f t 1 * 2 + ms f t 2 * 4 + ms f t 3 * 8 + ms f t 4 * 16 ∧ 0 + ms f t 0 * 1 + ms f t 1 * 2 + ms f t 2 * 4 + ms f t 3 * 8 + ms f t 4 * 16 < 32
    omega
  | n + 6, h => absurd h (by omega)
theorem fP_6 (f : Int → Int) (t : Int) : fP f t 6 = fmk f t := by
  show 0 + ms f t 0 * 1 + ms f t 1 * 2 + ms f t 2 * 4 + ms f t 3 * 8 + ms f t 4 * 16 + ms f t 5 * 32 = _
  unfold fmk
  omega
theorem fC_6 (f : Int → Int) (t : Int) : fC f t 6 = fnm f t := by
  show 0 + ms f t 0 + ms f t 1 + ms f t 2 + ms f t 3 + ms f t 4 + ms f t 5 = _
  unfold fnm
  omega
theorem opP_0 {f : Int → Int} {t : Int} (ht : 0 ≤ t) (h : f (93 + 9 * t) = 0) : opP f t 0 = f := by
  unfold opP fP fC
  rw [us_self (f := f) (i := 93 + 9 * t) h, Int.mul_zero, Int.add_zero, Int.add_zero, us_self rfl, us_self rfl]
theorem opP_s {f : Int → Int} {t c : Int} (ht : 0 ≤ t) (n : Nat) (hc : c = f 2 * ms f t (n : Int)) : tks (us (opP f t n) (93 + 9 * t) (fP f t (n + 1))) t c 12 = opP f t (n + 1) := by
  have e1 : us (opP f t n) (93 + 9 * t) (fP f t (n + 1)) (91 + 9 * t) = f (91 + 9 * t) + f 2 * fC f t n := by
    unfold opP
    rw [us_n (by omega), us_n (by omega), us_s]
  have e2 : us (opP f t n) (93 + 9 * t) (fP f t (n + 1)) 12 = f 12 + f 2 * fC f t n := by
    unfold opP
    rw [us_n (by omega), us_s]
  unfold tks
  rw [e1, e2]
  have e3 : ∀ x : Int, x + f 2 * fC f t n + c = x + f 2 * fC f t (n + 1) := by
    intro x
    show _ = x + f 2 * (fC f t n + ms f t (n : Int))
    rw [Int.mul_add, hc]
    omega
  rw [e3, e3]
  unfold opP
  rw [us_c (i := 12) (j := 93 + 9 * t) (by omega), us_c (i := 91 + 9 * t) (j := 93 + 9 * t) (by omega), us_us, us_c (i := 12) (j := 91 + 9 * t) (by omega), us_us, us_us]
theorem opP_at {f : Int → Int} {t : Int} {n : Nat} (ht : 0 ≤ t) {j : Int} (h1 : j ≠ 93 + 9 * t) (h2 : j ≠ 91 + 9 * t) (h3 : j ≠ 12) : opP f t n j = f j := by
  unfold opP
  rw [us_n h3, us_n h2, us_n h1]
theorem opP_f {f : Int → Int} {t : Int} {n : Nat} (ht : 0 ≤ t) : opP f t n (93 + 9 * t) = fP f t n := by
  unfold opP
  rw [us_n (by omega), us_n (by omega), us_s]
abbrev C_X7_opens : Ct := (3, false, fun as M => ∃ (o : Nat) (b : Int) (t : Int), as = [wR o, wI b, wI t] ∧ (o = 11 ∧ (0 ≤ b ∧ b ≤ 4634) ∧ (0 ≤ t ∧ t < 64) ∧ Bd (sh b (M 12)) ∧ (sh b (M 12)) (93 + 9 * t) = 0), fun as M x M' => ∀ (o : Nat) (b : Int) (t : Int), as = [wR o, wI b, wI t] → ((mr b M (opn (sh b (M 12)) t)) = M'))
def sx_X7_opens : Sx := (tb_X7_opens, fdX7, kLX7, kIX7, sgX7, ntX7, [(39, (9, C_X7_trunkAt)), (42, (9, C_X7_piecesOn)), (49, (9, C_X7_flag)), (59, (7, C_X7_takes)), (63, (7, C_X7_passes))], 0)
set_option maxRecDepth 100000 in
set_option maxHeartbeats 1000000 in
theorem ok_X7_opens (L : Nat) (scr : Int → Int) (o : Nat) (b : Int) (t : Int) (M : Mem) (hp : o = 11 ∧ (0 ≤ b ∧ b ≤ 4634) ∧ (0 ≤ t ∧ t < 64) ∧ Bd (sh b (M 12)) ∧ (sh b (M 12)) (93 + 9 * t) = 0) : Runs sx_X7_opens L (xcF scr) (fun x M' => (mr b M (opn (sh b (M 12)) t)) = M') 0 [wR o, wI b, wI t, none, none, none, none] [] M := by
  obtain ⟨rfl, h1, h2, h3, h4⟩ := hp
  obtain ⟨c0, c1, c2, c3⟩ := h3.2.2.2 t h2.1 h2.2
  have L1 : ∀ (n i : Nat) (x5 x6 : PV), i + n = 6 → Runs sx_X7_opens L (xcF scr) (fun x M' => (mr b M (opn (sh b (M 12)) t)) = M') 9 [wR 11, wI b, wI t, wI (b + 86 + 9 * t), wI (i : Int), x5, x6] [] (mr b M (opP (sh b (M 12)) t i)) := by
    intro n
    induction n with
    | zero =>
      intro i x5 x6 hi
      have hi : i = 6 := by omega
      subst hi
      have hf := fmk_bd (sh b (M 12)) t
      refine R_iload (q := 11) rfl rfl rfl ?_
      refine R_bipush (q := 13) rfl rfl (by decide) ?_
      refine R_icmp_ge (q := 16) (tgt := 125) rfl rfl (by decide) (by omega) (by omega) (fun h13 => ?_) (fun h13 => ?_)
      · refine R_aload_n (q := 126) (i := 0) rfl rfl rfl rfl ?_
        refine R_getR (q := 129) rfl rfl rfl rfl rfl (by omega) ?_
        refine R_iload_n (q := 130) (i := 1) rfl rfl rfl rfl ?_
        refine R_bipush (q := 132) rfl rfl (by decide) ?_
        refine R_iadd (q := 133) rfl rfl ?_
        refine R_dup2 (q := 134) rfl rfl rfl rfl ?_
        refine R_iald (q := 135) (v := sh b (M 12) 14) rfl rfl rfl (by omega) (by omega) (Eq.trans (rdmr (by omega)) (opP_at h2.1 (by omega) (by omega) (by omega))) ?_
        refine R_aload_n (q := 136) (i := 0) rfl rfl rfl rfl ?_
        refine R_getR (q := 139) rfl rfl rfl rfl rfl (by omega) ?_
        refine R_iload_n (q := 140) (i := 3) rfl rfl rfl rfl ?_
        refine R_bipush (q := 142) rfl rfl (by decide) ?_
        refine R_iadd (q := 143) rfl rfl ?_
        refine R_iald (q := 144) (v := fmk (sh b (M 12)) t) rfl rfl rfl (by omega) (by omega) (Eq.trans (rdmr (by omega)) (Eq.trans (opP_f h2.1) (fP_6 _ _))) ?_
        refine R_if_ne (q := 147) (tgt := 151) rfl rfl (by decide) (by omega) (fun h144 => ?_) (fun h144 => ?_)
        · have e : bt_ (fmk (sh b (M 12)) t = 0) 1 = 0 := bt_f h144
          refine R_iconst (q := 152) rfl rfl ?_
          refine R_cS1I (q := 155) (ci := 9) (C := C_X7_flag) rfl rfl rfl rfl rfl ⟨_, rfl, (by first | trivial | assumption | omega)⟩ rfl rfl (fun x M' hc => ?_)
          replace hc := hc _ rfl
          try simp only [sh_mr, mr_mr] at hc
          obtain ⟨rfl, rfl⟩ := hc
          refine R_iadd (q := 156) rfl rfl ?_
          refine R_iast (q := 157) (M2 := mr b M (us (opP (sh b (M 12)) t 6) 14 ((sh b (M 12)) 14 + bt_ (fmk (sh b (M 12)) t = 0) 1))) rfl rfl rfl (by omega) (by omega) (by rw [e]; exact upmr (by omega)) ?_
          refine R_aload_n (q := 158) (i := 0) rfl rfl rfl rfl ?_
          refine R_iload_n (q := 159) (i := 1) rfl rfl rfl rfl ?_
          refine R_iconst (q := 160) rfl rfl ?_
          refine R_iload_n (q := 161) (i := 2) rfl rfl rfl rfl ?_
          refine R_iconst (q := 162) rfl rfl ?_
          refine R_cV4N (q := 165) (ci := 7) (C := C_X7_passes) rfl rfl rfl rfl rfl ⟨_, _, _, _, _, rfl, ⟨rfl, h1, by omega, h2, Or.inr rfl⟩⟩ rfl rfl (by omega) (fun M' hc => ?_)
          replace hc := hc _ _ _ _ _ rfl
          try simp only [sh_mr, mr_mr] at hc
          subst hc
          refine R_vret rfl rfl ?_
          unfold opn
          unfold opP
          rw [fP_6, fC_6]
        · have e : bt_ (fmk (sh b (M 12)) t = 0) 1 = 1 := bt_t (by omega)
          refine R_iconst (q := 148) rfl rfl ?_
          refine R_goto (q := 151) (tgt := 152) rfl rfl (by decide) ?_
          refine R_cS1I (q := 155) (ci := 9) (C := C_X7_flag) rfl rfl rfl rfl rfl ⟨_, rfl, (by first | trivial | assumption | omega)⟩ rfl rfl (fun x M' hc => ?_)
          replace hc := hc _ rfl
          try simp only [sh_mr, mr_mr] at hc
          obtain ⟨rfl, rfl⟩ := hc
          refine R_iadd (q := 156) rfl rfl ?_
          refine R_iast (q := 157) (M2 := mr b M (us (opP (sh b (M 12)) t 6) 14 ((sh b (M 12)) 14 + bt_ (fmk (sh b (M 12)) t = 0) 1))) rfl rfl rfl (by omega) (by omega) (by rw [e]; exact upmr (by omega)) ?_
          refine R_aload_n (q := 158) (i := 0) rfl rfl rfl rfl ?_
          refine R_iload_n (q := 159) (i := 1) rfl rfl rfl rfl ?_
          refine R_iconst (q := 160) rfl rfl ?_
          refine R_iload_n (q := 161) (i := 2) rfl rfl rfl rfl ?_
          refine R_iconst (q := 162) rfl rfl ?_
          refine R_cV4N (q := 165) (ci := 7) (C := C_X7_passes) rfl rfl rfl rfl rfl ⟨_, _, _, _, _, rfl, ⟨rfl, h1, by omega, h2, Or.inr rfl⟩⟩ rfl rfl (by omega) (fun M' hc => ?_)
          replace hc := hc _ _ _ _ _ rfl
          try simp only [sh_mr, mr_mr] at hc
          subst hc
          refine R_vret rfl rfl ?_
          unfold opn
          unfold opP
          rw [fP_6, fC_6]
      · omega
    | succ n ih =>
      intro i x5 x6 hi
      have hk : 0 ≤ (i : Int) ∧ (i : Int) < 6 := by omega
      have hb := fP_bd (sh b (M 12)) t i (by omega)
      have d1 := dig_bd (k := (i : Int)) c1.1
      have d2 := dig_bd (k := (i : Int)) c2.1
      have d3 := dig_bd (k := (i : Int)) c3.1
      have fin : ∀ (y c : Int) (x5 : PV), y = ms (sh b (M 12)) t (i : Int) → c = (sh b (M 12)) 2 * ms (sh b (M 12)) t (i : Int) → Runs sx_X7_opens L (xcF scr) (fun x M' => (mr b M (opn (sh b (M 12)) t)) = M') 119 [wR 11, wI b, wI t, wI (b + 86 + 9 * t), wI (i : Int), x5, wI y] [] (mr b M (tks (us (opP (sh b (M 12)) t i) (93 + 9 * t) (fP (sh b (M 12)) t (i + 1))) t c 12)) := by
        intro y c x5 hy hc
        rw [opP_s h2.1 i hc]
        refine R_iinc (q := 122) rfl rfl rfl rfl ?_
        refine R_goto (q := 125) (tgt := 9) rfl rfl (by decide) ?_
        exact ih (i + 1) _ _ (by omega)
      refine R_iload (q := 11) rfl rfl rfl ?_
      refine R_bipush (q := 13) rfl rfl (by decide) ?_
      refine R_icmp_ge (q := 16) (tgt := 125) rfl rfl (by decide) (by omega) (by omega) (fun h13 => ?_) (fun h13 => ?_)
      · omega
      · refine R_aload_n (q := 17) (i := 0) rfl rfl rfl rfl ?_
        refine R_getR (q := 20) rfl rfl rfl rfl rfl (by omega) ?_
        refine R_iload_n (q := 21) (i := 3) rfl rfl rfl rfl ?_
        refine R_iconst (q := 22) rfl rfl ?_
        refine R_iadd (q := 23) rfl rfl ?_
        refine R_iald (q := 24) (v := sh b (M 12) (89 + 9 * t)) rfl rfl rfl (by omega) (by omega) (Eq.trans (rdmr (by omega)) (opP_at h2.1 (by omega) (by omega) (by omega))) ?_
        refine R_iload (q := 26) rfl rfl rfl ?_
        refine R_cS2I (q := 29) (ci := 9) (C := C_X7_piecesOn) rfl rfl rfl rfl rfl ⟨_, _, rfl, ⟨c3, hk⟩⟩ rfl rfl (fun x M' hc => ?_)
        replace hc := hc _ _ rfl
        try simp only [sh_mr, mr_mr] at hc
        obtain ⟨rfl, rfl⟩ := hc
        refine R_istore (q := 31) rfl rfl rfl ?_
        refine R_iload (q := 33) rfl rfl rfl ?_
        refine R_aload_n (q := 34) (i := 0) rfl rfl rfl rfl ?_
        refine R_getR (q := 37) rfl rfl rfl rfl rfl (by omega) ?_
        refine R_iload_n (q := 38) (i := 3) rfl rfl rfl rfl ?_
        refine R_iconst (q := 39) rfl rfl ?_
        refine R_iadd (q := 40) rfl rfl ?_
        refine R_iald (q := 41) (v := sh b (M 12) (87 + 9 * t)) rfl rfl rfl (by omega) (by omega) (Eq.trans (rdmr (by omega)) (opP_at h2.1 (by omega) (by omega) (by omega))) ?_
        refine R_iload (q := 43) rfl rfl rfl ?_
        refine R_cS2I (q := 46) (ci := 9) (C := C_X7_piecesOn) rfl rfl rfl rfl rfl ⟨_, _, rfl, ⟨c1, hk⟩⟩ rfl rfl (fun x M' hc => ?_)
        replace hc := hc _ _ rfl
        try simp only [sh_mr, mr_mr] at hc
        obtain ⟨rfl, rfl⟩ := hc
        refine R_icmp_le (q := 49) (tgt := 71) rfl rfl (by decide) (by omega) (by omega) (fun h46 => ?_) (fun h46 => ?_)
        · have e : ms (sh b (M 12)) t (i : Int) = 0 := bt_f (by omega)
          refine R_iconst (q := 72) rfl rfl ?_
          refine R_istore (q := 74) rfl rfl rfl ?_
          refine R_aload_n (q := 75) (i := 0) rfl rfl rfl rfl ?_
          refine R_getR (q := 78) rfl rfl rfl rfl rfl (by omega) ?_
          refine R_iload_n (q := 79) (i := 3) rfl rfl rfl rfl ?_
          refine R_bipush (q := 81) rfl rfl (by decide) ?_
          refine R_iadd (q := 82) rfl rfl ?_
          refine R_dup2 (q := 83) rfl rfl rfl rfl ?_
          refine R_iald (q := 84) (v := fP (sh b (M 12)) t i) rfl rfl rfl (by omega) (by omega) (Eq.trans (rdmr (by omega)) (opP_f h2.1)) ?_
          refine R_iload (q := 86) rfl rfl rfl ?_
          refine R_cS1I (q := 89) (ci := 9) (C := C_X7_flag) rfl rfl rfl rfl rfl ⟨_, rfl, (by first | trivial | assumption | omega)⟩ rfl rfl (fun x M' hc => ?_)
          replace hc := hc _ rfl
          try simp only [sh_mr, mr_mr] at hc
          obtain ⟨rfl, rfl⟩ := hc
          refine R_iload (q := 91) rfl rfl rfl ?_
          refine R_ishl (q := 92) rfl rfl ?_
          refine R_ior (q := 93) rfl rfl ?_
          refine R_iast (q := 94) (M2 := mr b M (us (opP (sh b (M 12)) t i) (93 + 9 * t) (fP (sh b (M 12)) t (i + 1)))) rfl rfl rfl (by omega) (by omega) (by rw [ior_shl hk hb (by omega)]; refine Eq.trans (upmr (j := 93 + 9 * t) (by omega)) ?_; rw [show fP (sh b (M 12)) t (i + 1) = fP (sh b (M 12)) t i + ms (sh b (M 12)) t (i : Int) * p2 (i : Int) from rfl, e]) ?_
          refine R_aload_n (q := 95) (i := 0) rfl rfl rfl rfl ?_
          refine R_iload_n (q := 96) (i := 1) rfl rfl rfl rfl ?_
          refine R_iload_n (q := 97) (i := 2) rfl rfl rfl rfl ?_
          refine R_iload (q := 99) rfl rfl rfl ?_
          refine R_if_eq (q := 102) (tgt := 113) rfl rfl (by decide) (by omega) (fun h99 => ?_) (fun h99 => ?_)
          · refine R_iconst (q := 114) rfl rfl ?_
            refine R_bipush (q := 116) rfl rfl (by decide) ?_
            refine R_cV4N (q := 119) (ci := 7) (C := C_X7_takes) rfl rfl rfl rfl rfl ⟨_, _, _, _, _, rfl, ⟨rfl, h1, h2, by omega⟩⟩ rfl rfl (by omega) (fun M' hc => ?_)
            replace hc := hc _ _ _ _ _ rfl
            try simp only [sh_mr, mr_mr] at hc
            subst hc
            exact fin _ _ _ e.symm (by rw [e]; omega)
          · omega
        · refine R_iload (q := 51) rfl rfl rfl ?_
          refine R_aload_n (q := 52) (i := 0) rfl rfl rfl rfl ?_
          refine R_getR (q := 55) rfl rfl rfl rfl rfl (by omega) ?_
          refine R_iload_n (q := 56) (i := 3) rfl rfl rfl rfl ?_
          refine R_iconst (q := 57) rfl rfl ?_
          refine R_iadd (q := 58) rfl rfl ?_
          refine R_iald (q := 59) (v := sh b (M 12) (88 + 9 * t)) rfl rfl rfl (by omega) (by omega) (Eq.trans (rdmr (by omega)) (opP_at h2.1 (by omega) (by omega) (by omega))) ?_
          refine R_iload (q := 61) rfl rfl rfl ?_
          refine R_cS2I (q := 64) (ci := 9) (C := C_X7_piecesOn) rfl rfl rfl rfl rfl ⟨_, _, rfl, ⟨c2, hk⟩⟩ rfl rfl (fun x M' hc => ?_)
          replace hc := hc _ _ rfl
          try simp only [sh_mr, mr_mr] at hc
          obtain ⟨rfl, rfl⟩ := hc
          refine R_icmp_le (q := 67) (tgt := 71) rfl rfl (by decide) (by omega) (by omega) (fun h64 => ?_) (fun h64 => ?_)
          · have e : ms (sh b (M 12)) t (i : Int) = 0 := bt_f (by omega)
            refine R_iconst (q := 72) rfl rfl ?_
            refine R_istore (q := 74) rfl rfl rfl ?_
            refine R_aload_n (q := 75) (i := 0) rfl rfl rfl rfl ?_
            refine R_getR (q := 78) rfl rfl rfl rfl rfl (by omega) ?_
            refine R_iload_n (q := 79) (i := 3) rfl rfl rfl rfl ?_
            refine R_bipush (q := 81) rfl rfl (by decide) ?_
            refine R_iadd (q := 82) rfl rfl ?_
            refine R_dup2 (q := 83) rfl rfl rfl rfl ?_
            refine R_iald (q := 84) (v := fP (sh b (M 12)) t i) rfl rfl rfl (by omega) (by omega) (Eq.trans (rdmr (by omega)) (opP_f h2.1)) ?_
            refine R_iload (q := 86) rfl rfl rfl ?_
            refine R_cS1I (q := 89) (ci := 9) (C := C_X7_flag) rfl rfl rfl rfl rfl ⟨_, rfl, (by first | trivial | assumption | omega)⟩ rfl rfl (fun x M' hc => ?_)
            replace hc := hc _ rfl
            try simp only [sh_mr, mr_mr] at hc
            obtain ⟨rfl, rfl⟩ := hc
            refine R_iload (q := 91) rfl rfl rfl ?_
            refine R_ishl (q := 92) rfl rfl ?_
            refine R_ior (q := 93) rfl rfl ?_
            refine R_iast (q := 94) (M2 := mr b M (us (opP (sh b (M 12)) t i) (93 + 9 * t) (fP (sh b (M 12)) t (i + 1)))) rfl rfl rfl (by omega) (by omega) (by rw [ior_shl hk hb (by omega)]; refine Eq.trans (upmr (j := 93 + 9 * t) (by omega)) ?_; rw [show fP (sh b (M 12)) t (i + 1) = fP (sh b (M 12)) t i + ms (sh b (M 12)) t (i : Int) * p2 (i : Int) from rfl, e]) ?_
            refine R_aload_n (q := 95) (i := 0) rfl rfl rfl rfl ?_
            refine R_iload_n (q := 96) (i := 1) rfl rfl rfl rfl ?_
            refine R_iload_n (q := 97) (i := 2) rfl rfl rfl rfl ?_
            refine R_iload (q := 99) rfl rfl rfl ?_
            refine R_if_eq (q := 102) (tgt := 113) rfl rfl (by decide) (by omega) (fun h99 => ?_) (fun h99 => ?_)
            · refine R_iconst (q := 114) rfl rfl ?_
              refine R_bipush (q := 116) rfl rfl (by decide) ?_
              refine R_cV4N (q := 119) (ci := 7) (C := C_X7_takes) rfl rfl rfl rfl rfl ⟨_, _, _, _, _, rfl, ⟨rfl, h1, h2, by omega⟩⟩ rfl rfl (by omega) (fun M' hc => ?_)
              replace hc := hc _ _ _ _ _ rfl
              try simp only [sh_mr, mr_mr] at hc
              subst hc
              exact fin _ _ _ e.symm (by rw [e]; omega)
            · omega
          · have e : ms (sh b (M 12)) t (i : Int) = 1 := bt_t (by omega)
            refine R_iconst (q := 68) rfl rfl ?_
            refine R_goto (q := 71) (tgt := 72) rfl rfl (by decide) ?_
            refine R_istore (q := 74) rfl rfl rfl ?_
            refine R_aload_n (q := 75) (i := 0) rfl rfl rfl rfl ?_
            refine R_getR (q := 78) rfl rfl rfl rfl rfl (by omega) ?_
            refine R_iload_n (q := 79) (i := 3) rfl rfl rfl rfl ?_
            refine R_bipush (q := 81) rfl rfl (by decide) ?_
            refine R_iadd (q := 82) rfl rfl ?_
            refine R_dup2 (q := 83) rfl rfl rfl rfl ?_
            refine R_iald (q := 84) (v := fP (sh b (M 12)) t i) rfl rfl rfl (by omega) (by omega) (Eq.trans (rdmr (by omega)) (opP_f h2.1)) ?_
            refine R_iload (q := 86) rfl rfl rfl ?_
            refine R_cS1I (q := 89) (ci := 9) (C := C_X7_flag) rfl rfl rfl rfl rfl ⟨_, rfl, (by first | trivial | assumption | omega)⟩ rfl rfl (fun x M' hc => ?_)
            replace hc := hc _ rfl
            try simp only [sh_mr, mr_mr] at hc
            obtain ⟨rfl, rfl⟩ := hc
            refine R_iload (q := 91) rfl rfl rfl ?_
            refine R_ishl (q := 92) rfl rfl ?_
            refine R_ior (q := 93) rfl rfl ?_
            refine R_iast (q := 94) (M2 := mr b M (us (opP (sh b (M 12)) t i) (93 + 9 * t) (fP (sh b (M 12)) t (i + 1)))) rfl rfl rfl (by omega) (by omega) (by rw [ior_shl hk hb (by omega)]; refine Eq.trans (upmr (j := 93 + 9 * t) (by omega)) ?_; rw [show fP (sh b (M 12)) t (i + 1) = fP (sh b (M 12)) t i + ms (sh b (M 12)) t (i : Int) * p2 (i : Int) from rfl, e]) ?_
            refine R_aload_n (q := 95) (i := 0) rfl rfl rfl rfl ?_
            refine R_iload_n (q := 96) (i := 1) rfl rfl rfl rfl ?_
            refine R_iload_n (q := 97) (i := 2) rfl rfl rfl rfl ?_
            refine R_iload (q := 99) rfl rfl rfl ?_
            refine R_if_eq (q := 102) (tgt := 113) rfl rfl (by decide) (by omega) (fun h99 => ?_) (fun h99 => ?_)
            · omega
            · refine R_aload_n (q := 103) (i := 0) rfl rfl rfl rfl ?_
              refine R_getR (q := 106) rfl rfl rfl rfl rfl (by omega) ?_
              refine R_iload_n (q := 107) (i := 1) rfl rfl rfl rfl ?_
              refine R_iconst (q := 108) rfl rfl ?_
              refine R_iadd (q := 109) rfl rfl ?_
              refine R_iald (q := 110) (v := sh b (M 12) 2) rfl rfl rfl (by omega) (by omega) (Eq.trans (rdmr (by omega)) (Eq.trans (us_n (by omega)) (opP_at h2.1 (by omega) (by omega) (by omega)))) ?_
              refine R_goto (q := 113) (tgt := 114) rfl rfl (by decide) ?_
              refine R_bipush (q := 116) rfl rfl (by decide) ?_
              refine R_cV4N (q := 119) (ci := 7) (C := C_X7_takes) rfl rfl rfl rfl rfl ⟨_, _, _, _, _, rfl, ⟨rfl, h1, h2, by omega⟩⟩ rfl rfl (by omega) (fun M' hc => ?_)
              replace hc := hc _ _ _ _ _ rfl
              try simp only [sh_mr, mr_mr] at hc
              subst hc
              exact fin _ _ _ e.symm (by rw [e]; omega)
  have e0 := opP_0 h2.1 h4
  have hM : mr b M (opP (sh b (M 12)) t 0) = M := by rw [e0, mr_self]
  have L2 := L1 6 0 none none rfl
  rw [hM] at L2
  refine R_iload_n (q := 1) (i := 1) rfl rfl rfl rfl ?_
  refine R_iload_n (q := 2) (i := 2) rfl rfl rfl rfl ?_
  refine R_cS2I (q := 5) (ci := 9) (C := C_X7_trunkAt) rfl rfl rfl rfl rfl ⟨_, _, rfl, (by first | trivial | assumption | omega)⟩ rfl rfl (fun x M' hc => ?_)
  replace hc := hc _ _ rfl
  try simp only [sh_mr, mr_mr] at hc
  obtain ⟨rfl, rfl⟩ := hc
  refine R_istore_n (q := 6) (i := 3) rfl rfl rfl rfl ?_
  refine R_iconst (q := 7) rfl rfl ?_
  refine R_istore (q := 9) rfl rfl rfl ?_
  exact L2
set_option maxRecDepth 100000 in
theorem mt_X7_opens : MtOK yX7_opens cX7_opens 7 none 2 C_X7_opens := by
  refine mt_of sx_X7_opens (by decide +kernel) (Or.inr (Or.inr ⟨rfl, rfl, rfl⟩)) (by decide +kernel) fdX7_ok kLX7_ok kIX7_ok sgX7_ok ntX7_ok
    (all_cons (clokS mt_X7_trunkAt (GT_at 659 (by decide +kernel) (by decide +kernel)) (GT_at 44 (by decide +kernel) (by decide +kernel)) (GT_at 661 (by decide +kernel) (by decide +kernel)) (by decide +kernel) (by decide) (GT_at 660 (by decide +kernel) (by decide +kernel))) (all_cons (clokS mt_X7_piecesOn (GT_at 681 (by decide +kernel) (by decide +kernel)) (GT_at 44 (by decide +kernel) (by decide +kernel)) (GT_at 683 (by decide +kernel) (by decide +kernel)) (by decide +kernel) (by decide) (GT_at 682 (by decide +kernel) (by decide +kernel))) (all_cons (clokS mt_X7_flag (GT_at 645 (by decide +kernel) (by decide +kernel)) (GT_at 44 (by decide +kernel) (by decide +kernel)) (GT_at 647 (by decide +kernel) (by decide +kernel)) (by decide +kernel) (by decide) (GT_at 646 (by decide +kernel) (by decide +kernel))) (all_cons (clokV mt_X7_takes rfl (GT_at 737 (by decide +kernel) (by decide +kernel)) (GT_at 44 (by decide +kernel) (by decide +kernel)) (GT_at 740 (by decide +kernel) (by decide +kernel)) (by decide +kernel) (by decide) (GT_at 739 (by decide +kernel) (by decide +kernel)) (GT_at 31 (by decide +kernel) (by decide +kernel)) rfl rfl) (all_cons (clokV mt_X7_passes rfl (GT_at 733 (by decide +kernel) (by decide +kernel)) (GT_at 44 (by decide +kernel) (by decide +kernel)) (GT_at 736 (by decide +kernel) (by decide +kernel)) (by decide +kernel) (by decide) (GT_at 735 (by decide +kernel) (by decide +kernel)) (GT_at 30 (by decide +kernel) (by decide +kernel)) rfl rfl) (all_nil)))))) ?_ ?_
  · rintro as M - ⟨o, b, t, rfl, hp⟩
    exact Nat.le_of_ble_eq_true rfl
  · rintro L scr as M - ⟨o, b, t, rfl, hp⟩
    exact Runs.mono (fun x M' h _ _ _ e => by cases e; exact h) (ok_X7_opens L scr o b t M hp)
