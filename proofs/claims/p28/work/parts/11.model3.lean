theorem us_c {f : Int → Int} {i j x y : Int} (h : i ≠ j) : us (us f i x) j y = us (us f j y) i x := by
  funext k
  unfold us
  by_cases h1 : k = j
  · by_cases h2 : k = i
    · omega
    · rw [if_pos h1, if_neg h2, if_pos h1]
  · by_cases h2 : k = i
    · rw [if_neg h1, if_pos h2, if_pos h2]
    · rw [if_neg h1, if_neg h2, if_neg h2, if_neg h1]
theorem us_us {f : Int → Int} {i x y : Int} : us (us f i x) i y = us f i y := by
  funext k
  unfold us
  by_cases h1 : k = i
  · rw [if_pos h1, if_pos h1]
  · rw [if_neg h1, if_neg h1, if_neg h1]
theorem us_self {f : Int → Int} {i x : Int} (h : f i = x) : us f i x = f := by
  funext k
  unfold us
  by_cases h1 : k = i
  · subst h1; rw [if_pos rfl, h]
  · rw [if_neg h1]
def fP (f : Int → Int) (t : Int) : Nat → Int
  | 0 => 0
  | n + 1 => fP f t n + ms f t (n : Int) * p2 (n : Int)
def fC (f : Int → Int) (t : Int) : Nat → Int
  | 0 => 0
  | n + 1 => fC f t n + ms f t (n : Int)
def opP (f : Int → Int) (t : Int) (n : Nat) : Int → Int := us (us (us f (93 + 9 * t) (fP f t n)) (91 + 9 * t) (f (91 + 9 * t) + f 2 * fC f t n)) 12 (f 12 + f 2 * fC f t n)
theorem fP_bd (f : Int → Int) (t : Int) : ∀ n, n < 6 → 0 ≤ fP f t n ∧ fP f t n < p2 (n : Int)
  | 0, _ => by show 0 ≤ (0 : Int) ∧ (0 : Int) < 1; omega
  | 1, _ => by
    have h0 := ms_01 f t 0
    show 0 ≤ 0 + ms f t 0 * 1 ∧ 0 + ms f t 0 * 1 < 2
    omega
  | 2, _ => by
    have h0 := ms_01 f t 0
    have h1 := ms_01 f t 1
    show 0 ≤ 0 + ms f t 0 * 1 + ms f t 1 * 2 ∧ 0 + ms f t 0 * 1 + ms f t 1 * 2 < 4
    omega
  | 3, _ => by
    have h0 := ms_01 f t 0
    have h1 := ms_01 f t 1
    have h2 := ms_01 f t 2
    show 0 ≤ 0 + ms f t 0 * 1 + ms f t 1 * 2 + ms f t 2 * 4 ∧ 0 + ms f t 0 * 1 + ms f t 1 * 2 + ms f t 2 * 4 < 8
    omega
  | 4, _ => by
    have h0 := ms_01 f t 0
    have h1 := ms_01 f t 1
    have h2 := ms_01 f t 2
    have h3 := ms_01 f t 3
    show 0 ≤ 0 + ms f t 0 * 1 + ms f t 1 * 2 + ms f t 2 * 4 + ms f t 3 * 8 ∧ 0 + ms f t 0 * 1 + ms f t 1 * 2 + ms f t 2 * 4 + ms f t 3 * 8 < 16
    omega
  | 5, _ => by
    have h0 := ms_01 f t 0
    have h1 := ms_01 f t 1
    have h2 := ms_01 f t 2
    have h3 := ms_01 f t 3
    have h4 := ms_01 f t 4
    show 0 ≤ 0 + ms f t 0 * 1 + ms f t 1 * 2 + ms f t 2 * 4 + ms f t 3 * 8 + ms f t 4 * 16 ∧ 0 + ms f t 0 * 1 + ms f t 1 * 2 + ms f t 2 * 4 + ms f t 3 * 8 + ms f t 4 * 16 < 32
    omega
  | n + 6, h => absurd h (by omega)
theorem fP_6 (f : Int → Int) (t : Int) : fP f t 6 = fmk f t := by
  show 0 + ms f t 0 * 1 + ms f t 1 * 2 + ms f t 2 * 4 + ms f t 3 * 8 + ms f t 4 * 16 + ms f t 5 * 32 = _
  unfold fmk
  omega
theorem fC_6 (f : Int → Int) (t : Int) : fC f t 6 = fnm f t := by
  show 0 + ms f t 0 + ms f t 1 + ms f t 2 + ms f t 3 + ms f t 4 + ms f t 5 = _
  unfold fnm
  omega
theorem opP_0 {f : Int → Int} {t : Int} (ht : 0 ≤ t) (h : f (93 + 9 * t) = 0) : opP f t 0 = f := by
  unfold opP fP fC
  rw [us_self (f := f) (i := 93 + 9 * t) h, Int.mul_zero, Int.add_zero, Int.add_zero, us_self rfl, us_self rfl]
theorem opP_s {f : Int → Int} {t c : Int} (ht : 0 ≤ t) (n : Nat) (hc : c = f 2 * ms f t (n : Int)) : tks (us (opP f t n) (93 + 9 * t) (fP f t (n + 1))) t c 12 = opP f t (n + 1) := by
  have e1 : us (opP f t n) (93 + 9 * t) (fP f t (n + 1)) (91 + 9 * t) = f (91 + 9 * t) + f 2 * fC f t n := by
    unfold opP
    rw [us_n (by omega), us_n (by omega), us_s]
  have e2 : us (opP f t n) (93 + 9 * t) (fP f t (n + 1)) 12 = f 12 + f 2 * fC f t n := by
    unfold opP
    rw [us_n (by omega), us_s]
  unfold tks
  rw [e1, e2]
  have e3 : ∀ x : Int, x + f 2 * fC f t n + c = x + f 2 * fC f t (n + 1) := by
    intro x
    show _ = x + f 2 * (fC f t n + ms f t (n : Int))
    rw [Int.mul_add, hc]
    omega
  rw [e3, e3]
  unfold opP
  rw [us_c (i := 12) (j := 93 + 9 * t) (by omega), us_c (i := 91 + 9 * t) (j := 93 + 9 * t) (by omega), us_us, us_c (i := 12) (j := 91 + 9 * t) (by omega), us_us, us_us]
theorem opP_at {f : Int → Int} {t : Int} {n : Nat} (ht : 0 ≤ t) {j : Int} (h1 : j ≠ 93 + 9 * t) (h2 : j ≠ 91 + 9 * t) (h3 : j ≠ 12) : opP f t n j = f j := by
  unfold opP
  rw [us_n h3, us_n h2, us_n h1]
theorem opP_f {f : Int → Int} {t : Int} {n : Nat} (ht : 0 ≤ t) : opP f t n (93 + 9 * t) = fP f t n := by
  unfold opP
  rw [us_n (by omega), us_n (by omega), us_s]
abbrev C_X7_opens : Ct := (3, false, fun as M => ∃ (o : Nat) (b : Int) (t : Int), as = [wR o, wI b, wI t] ∧ (o = 11 ∧ (0 ≤ b ∧ b ≤ 4634) ∧ (0 ≤ t ∧ t < 64) ∧ Bd (sh b (M 12)) ∧ (sh b (M 12)) (93 + 9 * t) = 0), fun as M x M' => ∀ (o : Nat) (b : Int) (t : Int), as = [wR o, wI b, wI t] → ((mr b M (opn (sh b (M 12)) t)) = M'))
