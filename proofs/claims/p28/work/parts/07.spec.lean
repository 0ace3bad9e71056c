/-! WHAT A STATE IS, AND WHAT IS DONE TO IT: a row of whole numbers, by the reference's places -/
def us (f : Int → Int) (i x : Int) : Int → Int := fun j => if j = i then x else f j
theorem us_s {f : Int → Int} {i x : Int} : us f i x i = x := if_pos rfl
theorem us_n {f : Int → Int} {i j x : Int} (h : j ≠ i) : us f i x j = f j := if_neg h
def pw (k : Int) : Int := if k = 0 then 100000 else if k = 1 then 10000 else if k = 2 then 1000 else if k = 3 then 100 else if k = 4 then 10 else 1
def dig (d k : Int) : Int := d / pw k % 10
def iab (x : Int) : Int := if x < 0 then -x else x
def df (f : Int → Int) (t k : Int) : Int := iab (dig (f (87 + 9 * t)) k - dig (f (88 + 9 * t)) k)
def bt_ (p : Prop) [Decidable p] (x : Int) : Int := if p then x else 0
def ds (f : Int → Int) (t k : Int) : Int := bt_ (f 4 < df f t k) 1
def msk (f : Int → Int) (t : Int) : Int := ds f t 0 + 2 * ds f t 1 + 4 * ds f t 2 + 8 * ds f t 3 + 16 * ds f t 4 + 32 * ds f t 5
def dw (f : Int → Int) (t k : Int) : Int := ds f t k * df f t k * f (15 + k)
def dbt (f : Int → Int) (t : Int) : Int := if msk f t = 0 then 0 else 9 - f (21 + f (86 + 9 * t)) + dw f t 0 + dw f t 1 + dw f t 2 + dw f t 3 + dw f t 4 + dw f t 5
def tks (f : Int → Int) (t c w : Int) : Int → Int := us (us f (91 + 9 * t) (f (91 + 9 * t) + c)) w (f w + c)
def rmv (f : Int → Int) (d p : Int) : Int → Int := fun j => if j = 27 + 4 * d then f j - 1 else if 38 + 16 * d + p ≤ j ∧ j < 37 + 16 * d + f (27 + 4 * d) then f (j + 1) else f j
def jn (f : Int → Int) (d t : Int) : Int → Int := us (us f (38 + 16 * d + f (27 + 4 * d)) t) (27 + 4 * d) (f (27 + 4 * d) + 1)
def pss (f : Int → Int) (d t w : Int) : Int → Int := us (us (us f (90 + 9 * t) w) (29 + 4 * d) (f (29 + 4 * d) + 1)) (if w = 1 then 8 else 9) (f (if w = 1 then 8 else 9) + 1)
abbrev mo (f : Int → Int) (t k : Int) : Prop := dig (f (87 + 9 * t)) k < dig (f (89 + 9 * t)) k ∧ dig (f (88 + 9 * t)) k < dig (f (89 + 9 * t)) k
def ms (f : Int → Int) (t k : Int) : Int := bt_ (mo f t k) 1
def fmk (f : Int → Int) (t : Int) : Int := ms f t 0 + 2 * ms f t 1 + 4 * ms f t 2 + 8 * ms f t 3 + 16 * ms f t 4 + 32 * ms f t 5
def fnm (f : Int → Int) (t : Int) : Int := ms f t 0 + ms f t 1 + ms f t 2 + ms f t 3 + ms f t 4 + ms f t 5
/-- opened: the kinds that were hidden are fined; then the trunk passes at the desk 2 -/
def opn (f : Int → Int) (t : Int) : Int → Int :=
  pss (us (us (us (us f (93 + 9 * t) (fmk f t)) (91 + 9 * t) (f (91 + 9 * t) + f 2 * fnm f t)) 12 (f 12 + f 2 * fnm f t)) 14 (f 14 + bt_ (fmk f t = 0) 1)) 2 t 2
/-- a hand of the desk d takes the first trunk; whether the desk goes on -/
abbrev lkS (f : Int → Int) (d o : Int) : Prop := msk f (f (38 + 16 * d)) ≠ 0 ∧ d = 2 ∧ f 5 ≤ f 9 - o
def lkd (f : Int → Int) (d : Int) : Int → Int := us f (28 + 4 * d) (f (28 + 4 * d) + 1)
def lkg (f : Int → Int) (d : Int) : Int → Int :=
  if msk f (f (38 + 16 * d)) = 0 then pss (rmv (lkd f d) d 0) d (f (38 + 16 * d)) 1
  else if d ≠ 2 ∧ dbt f (f (38 + 16 * d)) ≤ f 0 * (d + 1) then pss (tks (rmv (lkd f d) d 0) (f (38 + 16 * d)) (f 1) 11) d (f (38 + 16 * d)) 1
  else if d = 2 then opn (rmv (lkd f d) d 0) (f (38 + 16 * d))
  else us (jn (rmv (lkd f d) d 0) (d + 1) (f (38 + 16 * d))) (94 + 9 * f (38 + 16 * d)) (f (94 + 9 * f (38 + 16 * d)) + 1)
def hnd (d o : Int) : Nat → (Int → Int) → (Int → Int)
  | 0, f => f
  | n + 1, f => if f (27 + 4 * d) ≤ 0 then f else if lkS f d o then lkd f d else hnd d o n (lkg f d)
def dly (d : Int) : Nat → Int → (Int → Int) → (Int → Int)
  | 0, _, f => f
  | n + 1, p, f => dly d n (p + 1) (tks f (f (38 + 16 * d + p)) (f 3) 13)
def dlD (f : Int → Int) (d : Int) : Int → Int := dly d (f (27 + 4 * d)).toNat 0 f
def hnD (f : Int → Int) (d : Int) : Int → Int := hnd d (f 9) (f (26 + 4 * d)).toNat f
/-- a turn (kept shut: only its equation opens it) -/
theorem tn1_ex : ∃ g : (Int → Int) → (Int → Int), ∀ f, g f = us (dlD (dlD (dlD (hnD (hnD (hnD f 2) 1) 0) 0) 1) 2) 6 (dlD (dlD (dlD (hnD (hnD (hnD f 2) 1) 0) 0) 1) 2 6 + 1) := ⟨fun f => us (dlD (dlD (dlD (hnD (hnD (hnD f 2) 1) 0) 0) 1) 2) 6 (dlD (dlD (dlD (hnD (hnD (hnD f 2) 1) 0) 0) 1) 2 6 + 1), fun _ => rfl⟩
noncomputable def tn1 : (Int → Int) → (Int → Int) := Classical.choose tn1_ex
theorem tn1_def (f : Int → Int) : tn1 f = us (dlD (dlD (dlD (hnD (hnD (hnD f 2) 1) 0) 0) 1) 2) 6 (dlD (dlD (dlD (hnD (hnD (hnD f 2) 1) 0) 0) 1) 2 6 + 1) := Classical.choose_spec tn1_ex f
theorem n200_ex : ∃ n : Nat, n = 200 := ⟨200, rfl⟩
noncomputable def N200 : Nat := Classical.choose n200_ex
theorem N200_eq : N200 = 200 := Classical.choose_spec n200_ex
noncomputable def tnN : Nat → (Int → Int) → (Int → Int)
  | 0, f => f
  | n + 1, f => tnN n (tn1 f)
/-- the row at b of the reference's one array -/
def sh (b : Int) (F : Int → Int) : Int → Int := fun i => F (b + i)
def un (b : Int) (f : Int → Int) : Int → Int := fun k => f (k - b)
def sta (M : Mem) (F : Int → Int) : Mem := fun r => if r = 12 then F else M r
def mr (b : Int) (M : Mem) (f : Int → Int) : Mem := sta M (un b f)
theorem un_sh (b : Int) (F : Int → Int) : un b (sh b F) = F := by
  funext k
  show F (b + (k - b)) = F k
  congr 1
  omega
theorem sh_un (b : Int) (f : Int → Int) : sh b (un b f) = f := by
  funext k
  show f (b + k - b) = f k
  congr 1
  omega
theorem sta_12 (M : Mem) (F : Int → Int) : sta M F 12 = F := if_pos rfl
theorem sta_ne {M : Mem} {F : Int → Int} {r : Nat} (h : r ≠ 12) : sta M F r = M r := if_neg h
theorem sta_sta (M : Mem) (F G : Int → Int) : sta (sta M F) G = sta M G := by
  funext r
  by_cases h : r = 12
  · subst h; rw [sta_12, sta_12]
  · rw [sta_ne h, sta_ne h, sta_ne h]
theorem sta_self (M : Mem) : sta M (M 12) = M := by
  funext r
  by_cases h : r = 12
  · subst h; rw [sta_12]
  · rw [sta_ne h]
theorem up_sta (M : Mem) (k x : Int) : upM M 12 k x = sta M (us (M 12) k x) := by
  funext r k'
  by_cases h : r = 12
  · subst h
    rw [sta_12]
    simp [upM, us]
  · rw [sta_ne h]
    simp [upM, h]
theorem us_un (b : Int) (f : Int → Int) (k x : Int) : us (un b f) k x = un b (us f (k - b) x) := by
  funext j
  unfold us un
  by_cases h : j = k
  · subst h; simp
  · rw [if_neg h]
    show f (j - b) = if j - b = k - b then x else f (j - b)
    rw [if_neg (by omega)]
theorem mr_12 (b : Int) (M : Mem) (f : Int → Int) (k : Int) : mr b M f 12 k = f (k - b) := by
  unfold mr
  rw [sta_12]
  rfl
theorem sh_mr (b : Int) (M : Mem) (f : Int → Int) : sh b (mr b M f 12) = f := by
  unfold mr
  rw [sta_12, sh_un]
theorem mr_mr (b : Int) (M : Mem) (f g : Int → Int) : mr b (mr b M f) g = mr b M g := sta_sta _ _ _
theorem mr_self (b : Int) (M : Mem) : mr b M (sh b (M 12)) = M := by
  unfold mr
  rw [un_sh, sta_self]
theorem up_mr (b : Int) (M : Mem) (f : Int → Int) (k x : Int) : upM (mr b M f) 12 k x = mr b M (us f (k - b) x) := by
  rw [up_sta]
  unfold mr
  rw [sta_12, sta_sta, us_un]
theorem mr_ne {b : Int} {M : Mem} {f : Int → Int} {r : Nat} (h : r ≠ 12) : mr b M f r = M r := sta_ne h
theorem us_at {f : Int → Int} {i j x : Int} (h : i = j) : us f i x = us f j x := by rw [h]
theorem rd12 {M : Mem} {b i j : Int} (h : i = b + j) : M 12 i = sh b (M 12) j := congrArg (M 12) h
theorem rdmr {M : Mem} {f : Int → Int} {b i j : Int} (h : i = b + j) : mr b M f 12 i = f j := by
  rw [mr_12]
  congr 1
  omega
theorem upmr {M : Mem} {f : Int → Int} {b i j x : Int} (h : i = b + j) : upM (mr b M f) 12 i x = mr b M (us f j x) := by
  rw [up_mr]
  congr 2
  omega
theorem up12 {M : Mem} {b i j x : Int} (h : i = b + j) : upM M 12 i x = mr b M (us (sh b (M 12)) j x) := by
  have := upmr (M := M) (f := sh b (M 12)) (x := x) h
  rwa [mr_self] at this
/-- the ranges that always hold -/
def Bd (f : Int → Int) : Prop :=
  ((0 ≤ f 0 ∧ f 0 ≤ 200) ∧ (0 ≤ f 1 ∧ f 1 ≤ 50) ∧ (0 ≤ f 2 ∧ f 2 ≤ 90) ∧ (0 ≤ f 3 ∧ f 3 ≤ 20) ∧ (0 ≤ f 4 ∧ f 4 ≤ 9) ∧ (1 ≤ f 5 ∧ f 5 ≤ 4)) ∧
  (∀ k, 0 ≤ k → k < 6 → 1 ≤ f (15 + k) ∧ f (15 + k) ≤ 9) ∧ (∀ c, 0 ≤ c → c < 5 → 0 ≤ f (21 + c) ∧ f (21 + c) ≤ 9) ∧
  (∀ t, 0 ≤ t → t < 64 → (0 ≤ f (86 + 9 * t) ∧ f (86 + 9 * t) < 5) ∧ (0 ≤ f (87 + 9 * t) ∧ f (87 + 9 * t) < 1000000) ∧ (0 ≤ f (88 + 9 * t) ∧ f (88 + 9 * t) < 1000000) ∧ (0 ≤ f (89 + 9 * t) ∧ f (89 + 9 * t) < 1000000))
/-- 2^k for the kinds -/
def p2 (k : Int) : Int := if k = 0 then 1 else if k = 1 then 2 else if k = 2 then 4 else if k = 3 then 8 else if k = 4 then 16 else 32
def mP (f : Int → Int) (t : Int) : Nat → Int
  | 0 => 0
  | n + 1 => mP f t n + ds f t (n : Int) * p2 (n : Int)
def dP (f : Int → Int) (t : Int) : Nat → Int
  | 0 => 9 - f (21 + f (86 + 9 * t))
  | n + 1 => dP f t n + dw f t (n : Int)
def rmP (f : Int → Int) (d p k : Int) : Int → Int := fun j => if j = 27 + 4 * d then f j - 1 else if 38 + 16 * d + p ≤ j ∧ j < 38 + 16 * d + k then f (j + 1) else f j

