/-! A STATE OF THE CLASS, AGAINST A ROW: where each of the row's places lies -/
def tcl (c : Int) : Nat := if c = 0 then 12 else if c = 1 then 14 else if c = 2 then 15 else if c = 3 then 16 else if c = 4 then 19 else if c = 5 then 17 else if c = 6 then 18 else if c = 7 then 20 else 21
def cl (i : Int) : Nat :=
  if i < 86 then (if i < 6 then 1 else if i = 6 then 0 else if i = 7 then 11 else if i < 15 then 0 else if i < 21 then 2 else if i < 26 then 3 else if i < 38 then 5 + 2 * ((i - 26) / 4).toNat else 6 + 2 * ((i - 38) / 16).toNat)
  else tcl ((i - 86) % 9)
def pl (i : Int) : Int :=
  if i < 86 then (if i < 6 then i else if i = 6 then 5 else if i = 7 then 0 else if i < 15 then i - 5 else if i < 21 then i - 15 else if i < 26 then i - 21 else if i < 38 then (if (i - 26) % 4 = 0 then 2 else if (i - 26) % 4 = 1 then 1 else if (i - 26) % 4 = 2 then 3 else 4) else (i - 38) % 16)
  else (i - 86) / 9
def isP (i : Int) : Prop := 86 ≤ i ∧ 1 ≤ (i - 86) % 9 ∧ (i - 86) % 9 ≤ 3
noncomputable def en (i x : Int) : Int := @ite _ (isP i) (Classical.propDecidable _) (nib x) x
theorem en_p {i x : Int} (h : isP i) : en i x = nib x := if_pos h
theorem en_n {i x : Int} (h : ¬ isP i) : en i x = x := if_neg h
def Pv (i : Int) : Prop := 0 ≤ i ∧ i < 662 ∧ i ≠ 8 ∧ i ≠ 9 ∧ i ≠ 10 ∧ i ≠ 14
def Vd (f : Int → Int) (i : Int) : Prop := Pv i ∧ (i < 86 ∨ i < 86 + 9 * f 7)
def RelS (M : Mem) (a : Nat) (f : Int → Int) : Prop := ∀ i, Vd f i → M (a + cl i) (pl i) = en i (f i)
def FrS (M M' : Mem) (a : Nat) : Prop := ∀ r, r < 191 → (r < a ∨ a + 22 ≤ r) → M' r = M r
def txI (c : Nat) : Int := if c = 12 then 0 else if c = 14 then 1 else if c = 15 then 2 else if c = 16 then 3 else if c = 19 then 4 else if c = 17 then 5 else if c = 18 then 6 else if c = 20 then 7 else 8
def ixI (c : Nat) (p : Int) : Int := if c = 0 then (if p = 5 then 6 else p + 5) else if c = 1 then p else if c = 2 then p + 15 else if c = 3 then p + 21 else if c = 11 then 7 else if c < 11 then (if c % 2 = 1 then 26 + 4 * (((c - 5) / 2 : Nat) : Int) + (if p = 2 then 0 else if p = 1 then 1 else if p = 3 then 2 else 3) else 38 + 16 * (((c - 6) / 2 : Nat) : Int) + p) else 86 + 9 * p + txI c
theorem cl_n : ∀ n : Nat, n < 86 → ixI (cl (n : Int)) (pl (n : Int)) = (n : Int) ∨ n = 8 ∨ n = 9 ∨ n = 10 ∨ n = 14 := by decide +kernel
theorem cl_b : ∀ n : Nat, n < 86 → cl (n : Int) < 12 := by decide +kernel
theorem tcl_b (c : Int) : 12 ≤ tcl c ∧ tcl c < 22 := by
  unfold tcl
  split <;> (try omega)
  all_goals (repeat' split) <;> omega
theorem tcl_x : ∀ c : Nat, c < 9 → txI (tcl (c : Int)) = (c : Int) := by decide +kernel
theorem cl_t {t c : Int} (ht : 0 ≤ t) (hc : 0 ≤ c ∧ c < 9) : cl (86 + 9 * t + c) = tcl c ∧ pl (86 + 9 * t + c) = t := by
  unfold cl pl
  rw [if_neg (by omega), if_neg (by omega), show (86 + 9 * t + c - 86) % 9 = c by omega]
  exact ⟨rfl, by omega⟩
theorem ix_cl {i : Int} (h : Pv i) : ixI (cl i) (pl i) = i := by
  obtain ⟨h0, h1, h2, h3, h4, h5⟩ := h
  by_cases e : i < 86
  · obtain ⟨n, rfl⟩ : ∃ n : Nat, i = n := ⟨i.toNat, by omega⟩
    have := cl_n n (by omega)
    omega
  · obtain ⟨t, c, rfl, ht, hc⟩ : ∃ t c : Int, i = 86 + 9 * t + c ∧ 0 ≤ t ∧ 0 ≤ c ∧ c < 9 := ⟨(i - 86) / 9, (i - 86) % 9, by omega, by omega, by omega, by omega⟩
    rw [(cl_t ht hc).1, (cl_t ht hc).2]
    have b := tcl_b c
    obtain ⟨n, rfl⟩ : ∃ n : Nat, c = n := ⟨c.toNat, by omega⟩
    have x := tcl_x n (by omega)
    unfold ixI
    rw [if_neg (by omega), if_neg (by omega), if_neg (by omega), if_neg (by omega), if_neg (by omega), if_neg (by omega), x]
theorem cp_inj {i j : Int} (hi : Pv i) (hj : Pv j) (h1 : cl i = cl j) (h2 : pl i = pl j) : i = j := by
  rw [← ix_cl hi, ← ix_cl hj, h1, h2]
theorem cl_lt {i : Int} (h : 0 ≤ i) : cl i < 22 := by
  by_cases e : i < 86
  · obtain ⟨n, rfl⟩ : ∃ n : Nat, i = n := ⟨i.toNat, by omega⟩
    have := cl_b n (by omega)
    omega
  · unfold cl
    rw [if_neg e]
    exact (tcl_b _).2
theorem RelS.at {M : Mem} {a : Nat} {f : Int → Int} (h : RelS M a f) (i : Int) (hv : Vd f i) {r : Nat} {k : Int} (hr : a + cl i = r) (hk : pl i = k) (hp : ¬ isP i) : M r k = f i := by
  subst hr
  subst hk
  rw [h i hv, en_n hp]
theorem RelS.atp {M : Mem} {a : Nat} {f : Int → Int} (h : RelS M a f) (i : Int) (hv : Vd f i) {r : Nat} {k : Int} (hr : a + cl i = r) (hk : pl i = k) (hp : isP i) : M r k = nib (f i) := by
  subst hr
  subst hk
  rw [h i hv, en_p hp]
theorem upM_off {M : Mem} {r r' : Nat} {k k' x : Int} (h : ¬ (r' = r ∧ k' = k)) : upM M r k x r' k' = M r' k' := if_neg h
theorem RelS.up {M : Mem} {a : Nat} {f : Int → Int} (h : RelS M a f) (i : Int) {x v : Int} {r : Nat} {k : Int} (hi : Pv i) (h7 : i ≠ 7) (hr : a + cl i = r) (hk : pl i = k) (hv : en i x = v) : RelS (upM M r k v) a (us f i x) := by
  subst hr
  subst hk
  subst hv
  intro j hj
  have hj' : Vd f j := by
    refine ⟨hj.1, ?_⟩
    have := hj.2
    rw [us_n (Ne.symm h7)] at this
    exact this
  by_cases e : j = i
  · subst e
    rw [upM_s, us_s]
  · rw [upM_off (fun z => e (cp_inj hj.1 hi (by omega) z.2)), us_n e]
    exact h j hj'
theorem RelS.off {M M' : Mem} {a : Nat} {f : Int → Int} (h : RelS M a f) (h2 : ∀ r, a ≤ r → r < a + 22 → M' r = M r) : RelS M' a f := fun i hi => by
  have := cl_lt hi.1.1
  rw [h2 _ (by omega) (by omega)]
  exact h i hi
theorem RelS.cg {M : Mem} {a : Nat} {f g : Int → Int} (h : RelS M a f) (h2 : ∀ i, Vd f i → g i = f i) : RelS M a g := fun i hi => by
  have e7 : g 7 = f 7 := h2 7 ⟨by unfold Pv; omega, by omega⟩
  have hv : Vd f i := ⟨hi.1, by have := hi.2; rw [e7] at this; exact this⟩
  rw [h2 i hv]
  exact h i hv
theorem RelS.gh {M : Mem} {a : Nat} {f g : Int → Int} (h : RelS M a f) (ha : isSt a) : RelS (gho M g) a f := h.off (fun r h1 h2 => gho_r M g (by unfold isSt at ha; omega))
theorem nP {i : Int} (h : i < 86) : ¬ isP i := fun z => by unfold isP at z; omega
theorem nPt {t c : Int} (h : c = 0 ∨ 4 ≤ c ∧ c < 9) : ¬ isP (86 + 9 * t + c) := fun z => by unfold isP at z; omega
theorem yP {t c : Int} (ht : 0 ≤ t) (h : 1 ≤ c ∧ c ≤ 3) : isP (86 + 9 * t + c) := by unfold isP; omega
theorem vA {f : Int → Int} {i : Int} (h : 0 ≤ i ∧ i < 86 ∧ i ≠ 8 ∧ i ≠ 9 ∧ i ≠ 10 ∧ i ≠ 14) : Vd f i := ⟨by unfold Pv; omega, by omega⟩
theorem vT {f : Int → Int} {t c : Int} (h : 0 ≤ t ∧ t < f 7) (h2 : t < 64) (hc : 0 ≤ c ∧ c < 9) : Vd f (86 + 9 * t + c) := ⟨by unfold Pv; omega, by omega⟩
section
variable {M : Mem} {a : Nat} {f : Int → Int}
theorem RelS.st (h : RelS M a f) {k : Int} (hk : 0 ≤ k ∧ k < 6) : M (a + 1) k = f k :=
  h.at k (vA (by omega)) (by unfold cl; rw [if_pos (by omega), if_pos (by omega)]) (by unfold pl; rw [if_pos (by omega), if_pos (by omega)]) (nP (by omega))
theorem RelS.wt (h : RelS M a f) {k : Int} (hk : 0 ≤ k ∧ k < 6) : M (a + 2) k = f (15 + k) :=
  h.at (15 + k) (vA (by omega)) (by unfold cl; rw [if_pos (by omega), if_neg (by omega), if_neg (by omega), if_neg (by omega), if_neg (by omega), if_pos (by omega)]) (by unfold pl; rw [if_pos (by omega), if_neg (by omega), if_neg (by omega), if_neg (by omega), if_neg (by omega), if_pos (by omega)]; omega) (nP (by omega))
theorem RelS.tr (h : RelS M a f) {k : Int} (hk : 0 ≤ k ∧ k < 5) : M (a + 3) k = f (21 + k) :=
  h.at (21 + k) (vA (by omega)) (by unfold cl; rw [if_pos (by omega), if_neg (by omega), if_neg (by omega), if_neg (by omega), if_neg (by omega), if_neg (by omega), if_pos (by omega)]) (by unfold pl; rw [if_pos (by omega), if_neg (by omega), if_neg (by omega), if_neg (by omega), if_neg (by omega), if_neg (by omega), if_pos (by omega)]; omega) (nP (by omega))
theorem RelS.tm (h : RelS M a f) : M a 5 = f 6 := h.at 6 (vA (by omega)) rfl rfl (nP (by omega))
theorem RelS.ca (h : RelS M a f) : M (a + 11) 0 = f 7 := h.at 7 (vA (by omega)) rfl rfl (nP (by omega))
theorem RelS.fe (h : RelS M a f) : M a 6 = f 11 := h.at 11 (vA (by omega)) rfl rfl (nP (by omega))
theorem RelS.fi (h : RelS M a f) : M a 7 = f 12 := h.at 12 (vA (by omega)) rfl rfl (nP (by omega))
theorem RelS.dl (h : RelS M a f) : M a 8 = f 13 := h.at 13 (vA (by omega)) rfl rfl (nP (by omega))
theorem d3 {P : Int → Prop} {d : Int} (h : 0 ≤ d ∧ d < 3) (h0 : P 0) (h1 : P 1) (h2 : P 2) : P d := by
  have : d = 0 ∨ d = 1 ∨ d = 2 := by omega
  rcases this with rfl | rfl | rfl <;> assumption
theorem clD {d : Int} (h : 0 ≤ d ∧ d < 3) : (cl (26 + 4 * d) = 5 + 2 * d.toNat ∧ cl (27 + 4 * d) = 5 + 2 * d.toNat ∧ cl (28 + 4 * d) = 5 + 2 * d.toNat ∧ cl (29 + 4 * d) = 5 + 2 * d.toNat) ∧ pl (26 + 4 * d) = 2 ∧ pl (27 + 4 * d) = 1 ∧ pl (28 + 4 * d) = 3 ∧ pl (29 + 4 * d) = 4 :=
  d3 (P := fun d => (cl (26 + 4 * d) = 5 + 2 * d.toNat ∧ cl (27 + 4 * d) = 5 + 2 * d.toNat ∧ cl (28 + 4 * d) = 5 + 2 * d.toNat ∧ cl (29 + 4 * d) = 5 + 2 * d.toNat) ∧ pl (26 + 4 * d) = 2 ∧ pl (27 + 4 * d) = 1 ∧ pl (28 + 4 * d) = 3 ∧ pl (29 + 4 * d) = 4) h (by decide +kernel) (by decide +kernel) (by decide +kernel)
theorem clQ {d p : Int} (h : 0 ≤ d ∧ d < 3) (hp : 0 ≤ p ∧ p < 16) : cl (38 + 16 * d + p) = 6 + 2 * d.toNat ∧ pl (38 + 16 * d + p) = p := by
  unfold cl pl
  rw [if_pos (by omega), if_neg (by omega), if_neg (by omega), if_neg (by omega), if_neg (by omega), if_neg (by omega), if_neg (by omega), if_neg (by omega), if_pos (by omega), if_neg (by omega), if_neg (by omega), if_neg (by omega), if_neg (by omega), if_neg (by omega), if_neg (by omega), if_neg (by omega)]
  omega
theorem RelS.hc (h : RelS M a f) {d : Int} (hd : 0 ≤ d ∧ d < 3) : M (a + 5 + 2 * d.toNat) 2 = f (26 + 4 * d) := h.at _ (vA (by omega)) (by rw [(clD hd).1.1]; omega) (clD hd).2.1 (nP (by omega))
theorem RelS.wa (h : RelS M a f) {d : Int} (hd : 0 ≤ d ∧ d < 3) : M (a + 5 + 2 * d.toNat) 1 = f (27 + 4 * d) := h.at _ (vA (by omega)) (by rw [(clD hd).1.2.1]; omega) (clD hd).2.2.1 (nP (by omega))
theorem RelS.lk (h : RelS M a f) {d : Int} (hd : 0 ≤ d ∧ d < 3) : M (a + 5 + 2 * d.toNat) 3 = f (28 + 4 * d) := h.at _ (vA (by omega)) (by rw [(clD hd).1.2.2.1]; omega) (clD hd).2.2.2.1 (nP (by omega))
theorem RelS.ps (h : RelS M a f) {d : Int} (hd : 0 ≤ d ∧ d < 3) : M (a + 5 + 2 * d.toNat) 4 = f (29 + 4 * d) := h.at _ (vA (by omega)) (by rw [(clD hd).1.2.2.2]; omega) (clD hd).2.2.2.2 (nP (by omega))
theorem RelS.qu (h : RelS M a f) {d p : Int} (hd : 0 ≤ d ∧ d < 3) (hp : 0 ≤ p ∧ p < 16) : M (a + 5 + 2 * d.toNat + 1) p = f (38 + 16 * d + p) := h.at _ (vA (by omega)) (by rw [(clQ hd hp).1]; omega) (clQ hd hp).2 (nP (by omega))
/-- a trunk's places -/
theorem RelS.tk (h : RelS M a f) {t : Int} (ht : 0 ≤ t ∧ t < f 7) (h2 : t < 64) {c : Int} (hc : c = 0 ∨ 4 ≤ c ∧ c < 9) : M (a + tcl c) t = f (86 + 9 * t + c) := h.at _ (vT ht h2 (by omega)) (by rw [(cl_t ht.1 (by omega)).1]) (cl_t ht.1 (by omega)).2 (nPt hc)
theorem RelS.pp (h : RelS M a f) {t : Int} (ht : 0 ≤ t ∧ t < f 7) (h2 : t < 64) {c : Int} (hc : 1 ≤ c ∧ c ≤ 3) : M (a + tcl c) t = nib (f (86 + 9 * t + c)) := h.atp _ (vT ht h2 (by omega)) (by rw [(cl_t ht.1 (by omega)).1]) (cl_t ht.1 (by omega)).2 (yP ht.1 hc)
theorem RelS.co (h : RelS M a f) {t : Int} (ht : 0 ≤ t ∧ t < f 7) (h2 : t < 64) : M (a + 11 + 1) t = f (86 + 9 * t) := by
  have := h.tk ht h2 (c := 0) (by omega)
  rw [Int.add_zero] at this
  exact this
theorem RelS.fa (h : RelS M a f) {t : Int} (ht : 0 ≤ t ∧ t < f 7) (h2 : t < 64) : M (a + 11 + 8) t = f (90 + 9 * t) := by
  have := h.tk ht h2 (c := 4) (by omega)
  rw [show 86 + 9 * t + 4 = 90 + 9 * t by omega] at this
  exact this
theorem RelS.ac (h : RelS M a f) {t : Int} (ht : 0 ≤ t ∧ t < f 7) (h2 : t < 64) : M (a + 11 + 6) t = f (91 + 9 * t) := by
  have := h.tk ht h2 (c := 5) (by omega)
  rw [show 86 + 9 * t + 5 = 91 + 9 * t by omega] at this
  exact this
theorem RelS.ar (h : RelS M a f) {t : Int} (ht : 0 ≤ t ∧ t < f 7) (h2 : t < 64) : M (a + 11 + 7) t = f (92 + 9 * t) := by
  have := h.tk ht h2 (c := 6) (by omega)
  rw [show 86 + 9 * t + 6 = 92 + 9 * t by omega] at this
  exact this
theorem RelS.fk (h : RelS M a f) {t : Int} (ht : 0 ≤ t ∧ t < f 7) (h2 : t < 64) : M (a + 11 + 9) t = f (93 + 9 * t) := by
  have := h.tk ht h2 (c := 7) (by omega)
  rw [show 86 + 9 * t + 7 = 93 + 9 * t by omega] at this
  exact this
theorem RelS.ho (h : RelS M a f) {t : Int} (ht : 0 ≤ t ∧ t < f 7) (h2 : t < 64) : M (a + 11 + 10) t = f (94 + 9 * t) := by
  have := h.tk ht h2 (c := 8) (by omega)
  rw [show 86 + 9 * t + 8 = 94 + 9 * t by omega] at this
  exact this
theorem RelS.p3 (h : RelS M a f) {t : Int} (ht : 0 ≤ t ∧ t < f 7) (h2 : t < 64) : M (a + 11 + 3) t = nib (f (87 + 9 * t)) ∧ M (a + 11 + 4) t = nib (f (88 + 9 * t)) ∧ M (a + 11 + 5) t = nib (f (89 + 9 * t)) := by
  have h1 := h.pp ht h2 (c := 1) (by omega)
  have h3 := h.pp ht h2 (c := 2) (by omega)
  have h4 := h.pp ht h2 (c := 3) (by omega)
  rw [show 86 + 9 * t + 1 = 87 + 9 * t by omega] at h1
  rw [show 86 + 9 * t + 2 = 88 + 9 * t by omega] at h3
  rw [show 86 + 9 * t + 3 = 89 + 9 * t by omega] at h4
  exact ⟨h1, h3, h4⟩
theorem RelS.ppo (h : RelS M a f) (hB : Bd f) {t : Int} (ht : 0 ≤ t ∧ t < f 7) (h2 : t < 64) : PpO M (a + 11) f t := by
  obtain ⟨-, c1, c2, c3⟩ := hB.2.2.2 t ht.1 h2
  exact ⟨h.p3 ht h2, c1.1, c2.1, c3.1⟩
end
theorem dkI {a : Nat} (ha : isSt a) {d : Int} (hd : 0 ≤ d ∧ d < 3) : isDk (a + 5 + 2 * d.toNat) := ⟨a, d.toNat, ha, by omega, rfl⟩
theorem tkI {a : Nat} (ha : isSt a) : isTk (a + 11) := ⟨a, ha, rfl⟩
abbrev SI (M : Mem) (a : Nat) : Prop := isSt a ∧ RelS M a (M 200) ∧ Inv (M 200)
