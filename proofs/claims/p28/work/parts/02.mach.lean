/-! THE PURE MACHINE: whole numbers for ints and longs (they stand for themselves modulo 2^32, 2^64), cells with numbers of their own, contents in one function. -/
abbrev PV : Type := Option (Int ⊕ (Nat ⊕ Int))
abbrev wI (x : Int) : PV := some (.inl x)
abbrev wR (r : Nat) : PV := some (.inr (.inl r))
abbrev wL (x : Int) : PV := some (.inr (.inr x))
abbrev Mem : Type := Nat → Int → Int
/-- a cell's kind: an object (its class, its slots that refer), an array of numbers (its type, its length), an array that refers -/
abbrev Kd : Type := (Nat × (Nat → Option Nat)) ⊕ ((Nat × Nat) ⊕ (Nat × Nat × (Nat → Nat)))
def upM (M : Mem) (r : Nat) (k x : Int) : Mem := fun r' k' => if r' = r ∧ k' = k then x else M r' k'
def cpM (M : Mem) (r0 : Nat) (sp : Int) (r1 : Nat) (dp n : Int) : Mem := fun r k => if r = r1 ∧ dp ≤ k ∧ k < dp + n then M r0 (sp + (k - dp)) else M r k
abbrev inr (x : Int) : Prop := -2147483648 ≤ x ∧ x < 2147483648
def i32 (x : Int) : Int := (Int32.ofInt x).toInt
def i64 (x : Int) : Int := (Int64.ofInt x).toInt
theorem i32_id {x : Int} (h : inr x) : i32 x = x := Int32.toInt_ofInt_of_le (by have := h.1; simpa using this) (by have := h.2; simpa using this)
theorem of_i32 (x : Int32) : Int32.ofInt x.toInt = x := Int32.ofInt_toInt x
theorem inr_toInt (x : Int32) : inr x.toInt := by
  have h1 := Int32.le_toInt x
  have h2 := Int32.toInt_lt x
  exact ⟨by simpa using h1, by simpa using h2⟩
theorem of_lt {x y : Int} (hx : inr x) (hy : inr y) : Int32.ofInt x < Int32.ofInt y ↔ x < y := by
  rw [Int32.lt_iff_toInt_lt]
  show i32 x < i32 y ↔ _
  rw [i32_id hx, i32_id hy]
theorem of_le {x y : Int} (hx : inr x) (hy : inr y) : Int32.ofInt x ≤ Int32.ofInt y ↔ x ≤ y := by
  rw [Int32.le_iff_toInt_le]
  show i32 x ≤ i32 y ↔ _
  rw [i32_id hx, i32_id hy]
theorem of_eq {x y : Int} (hx : inr x) (hy : inr y) : Int32.ofInt x = Int32.ofInt y ↔ x = y := by
  rw [← Int32.toInt_inj]
  show i32 x = i32 y ↔ _
  rw [i32_id hx, i32_id hy]
theorem of_nI (n : Nat) : Int32.ofInt (n : Int) = nI n := Int32.ofInt_eq_ofNat
theorem of_in {x : Int} {n : Nat} (h0 : 0 ≤ x) (h1 : x < n) (hn : n < 2147483648) : vp_in (Int32.ofInt x) n ∧ (Int32.ofInt x).toNatClampNeg = x.toNat := by
  obtain ⟨k, rfl⟩ : ∃ k : Nat, x = k := ⟨x.toNat, by omega⟩
  rw [of_nI]
  exact ⟨vp_in_nI (by omega) (by omega), by rw [nI_clamp (by omega)]; simp⟩
def vp (ad : Nat → Nat) (v : PV) : Value := match v with
  | none => .null
  | some (.inl x) => .int (Int32.ofInt x)
  | some (.inr (.inl r)) => .ref (ad r)
  | some (.inr (.inr x)) => .long (Int64.ofInt x)
/-- locals: a list of all places, the unset ones as 'none' -/
def LR (ad : Nat → Nat) (nL : Nat) (lp : List PV) (ls : Array Slot) : Prop := ∃ l : List (Nat × Value), lv_has ls nL l ∧ lp.length = nL ∧ ∀ (i : Nat) (v : Int ⊕ (Nat ⊕ Int)), lp[i]? = some (some v) → (i, vp ad (some v)) ∈ l
def isLong (v : Option PV) : Bool := match v with
  | some (some (.inr (.inr _))) => true
  | _ => false
def okS (lp : List PV) (i : Nat) : Bool := Nat.blt i lp.length && (match i with | 0 => true | k + 1 => !(isLong lp[k]?))
theorem okS_lt {lp : List PV} {i : Nat} (h : okS lp i = true) : i < lp.length := by
  unfold okS at h
  rw [Bool.and_eq_true] at h
  exact Nat.lt_of_not_le fun q => by have := h.1; simp [Nat.blt] at this; omega
theorem okS_long {lp : List PV} {i : Nat} (h : okS lp i = true) {k : Nat} (hk : k + 1 = i) {v : Int ⊕ (Nat ⊕ Int)} (hv : lp[k]? = some (some v)) (ad : Nat → Nat) : (vp ad (some v)).category = 1 := by
  subst hk
  unfold okS at h
  rw [Bool.and_eq_true] at h
  have h2 := h.2
  simp only [hv] at h2
  rcases v with x | r | x
  · rfl
  · rfl
  · simp [isLong] at h2
theorem LR.get {ad : Nat → Nat} {nL : Nat} {lp : List PV} {ls : Array Slot} (h : LR ad nL lp ls) {i : Nat} {v : Int ⊕ (Nat ⊕ Int)} (hv : lp[i]? = some (some v)) : ls[i]? = some (.val (vp ad (some v))) := by
  obtain ⟨l, h1, -, h3⟩ := h
  exact h1.2.2 _ (h3 i v hv)
theorem LR.size {ad : Nat → Nat} {nL : Nat} {lp : List PV} {ls : Array Slot} (h : LR ad nL lp ls) : ls.size = nL := h.choose_spec.1.1
theorem LR.len {ad : Nat → Nat} {nL : Nat} {lp : List PV} {ls : Array Slot} (h : LR ad nL lp ls) : lp.length = nL := h.choose_spec.2.1
theorem LR.put {ad : Nat → Nat} {nL : Nat} {lp : List PV} {l : List (Nat × Value)} {ls' : Array Slot} {i : Nat} {w : Int ⊕ (Nat ⊕ Int)} (hl : lp.length = nL) (h3 : ∀ (i : Nat) (v : Int ⊕ (Nat ⊕ Int)), lp[i]? = some (some v) → (i, vp ad (some v)) ∈ l) (ho : okS lp i = true)
    (h' : lv_has ls' nL ((i, vp ad (some w)) :: l.filter (fun q => !(q.1 == i) && !(q.1 + 1 == i && q.2.category == 2)))) : LR ad nL (lp.set i (some w)) ls' := by
  have hi := okS_lt ho
  refine ⟨_, h', by rw [List.length_set]; exact hl, fun j v hj => ?_⟩
  by_cases e : j = i
  · subst e
    rw [List.getElem?_set_self hi] at hj
    cases hj
    exact List.mem_cons_self
  · rw [List.getElem?_set_ne (Ne.symm e)] at hj
    refine List.mem_cons_of_mem _ (List.mem_filter.mpr ⟨h3 j v hj, ?_⟩)
    have hne : (j == i) = false := by simpa using e
    by_cases e2 : j + 1 = i
    · have := okS_long ho e2 hj ad
      simp [hne, this]
    · have hne2 : (j + 1 == i) = false := by simpa using e2
      simp [hne, hne2]
theorem LR.put2 {ad : Nat → Nat} {nL : Nat} {lp : List PV} {l : List (Nat × Value)} {ls' : Array Slot} {i : Nat} {x : Int} (hl : lp.length = nL) (h3 : ∀ (i : Nat) (v : Int ⊕ (Nat ⊕ Int)), lp[i]? = some (some v) → (i, vp ad (some v)) ∈ l) (ho : okS lp i = true)
    (h' : lv_has ls' nL ((i, Value.long (Int64.ofInt x)) :: l.filter (fun q => !(q.1 == i) && (!(q.1 == i + 1) && !(q.1 + 1 == i && q.2.category == 2))))) : LR ad nL ((lp.set i (wL x)).set (i + 1) none) ls' := by
  have hi := okS_lt ho
  refine ⟨_, h', by rw [List.length_set, List.length_set]; exact hl, fun j v hj => ?_⟩
  by_cases e0 : j = i + 1
  · subst e0
    rw [List.getElem?_set] at hj
    simp at hj
  rw [List.getElem?_set_ne (Ne.symm e0)] at hj
  by_cases e : j = i
  · subst e
    rw [List.getElem?_set_self hi] at hj
    cases hj
    exact List.mem_cons_self
  · rw [List.getElem?_set_ne (Ne.symm e)] at hj
    refine List.mem_cons_of_mem _ (List.mem_filter.mpr ⟨h3 j v hj, ?_⟩)
    have hne : (j == i) = false := by simpa using e
    have hne0 : (j == i + 1) = false := by simpa using e0
    by_cases e2 : j + 1 = i
    · have := okS_long ho e2 hj ad
      simp [hne, hne0, this]
    · have hne2 : (j + 1 == i) = false := by simpa using e2
      simp [hne, hne0, hne2]
/-- the locals at a method's entry -/
def iniL : List PV → List PV
  | [] => []
  | some (.inr (.inr x)) :: r => wL x :: none :: iniL r
  | v :: r => v :: iniL r
def iniN (as : List PV) (n : Nat) : List PV := iniL as ++ List.replicate (n - (iniL as).length) none
theorem iniL_args (ad : Nat → Nat) : ∀ (as : List PV) (n i : Nat) (v : Int ⊕ (Nat ⊕ Int)), (iniL as)[i]? = some (some v) → (n + i, vp ad (some v)) ∈ lv_args n (as.map (vp ad))
  | [], n, i, v, h => by simp [iniL] at h
  | some (.inr (.inr x)) :: r, n, i, v, h => by
    show _ ∈ (n, Value.long (Int64.ofInt x)) :: lv_args (n + 2) (r.map (vp ad))
    match i, h with
    | 0, h =>
      simp [iniL] at h
      subst h
      exact List.mem_cons_self
    | 1, h => simp [iniL] at h
    | i + 2, h =>
      have h : (iniL r)[i]? = some (some v) := by simpa [iniL] using h
      have := iniL_args ad r (n + 2) i v h
      rw [show n + (i + 2) = n + 2 + i by omega]
      exact List.mem_cons_of_mem _ this
  | none :: r, n, i, v, h => by
    show _ ∈ (n, Value.null) :: lv_args (n + 1) (r.map (vp ad))
    match i, h with
    | 0, h => simp [iniL] at h
    | i + 1, h =>
      have h : (iniL r)[i]? = some (some v) := by simpa [iniL] using h
      have := iniL_args ad r (n + 1) i v h
      rw [show n + (i + 1) = n + 1 + i by omega]
      exact List.mem_cons_of_mem _ this
  | some (.inl x) :: r, n, i, v, h => by
    show _ ∈ (n, Value.int (Int32.ofInt x)) :: lv_args (n + 1) (r.map (vp ad))
    match i, h with
    | 0, h =>
      simp [iniL] at h
      subst h
      exact List.mem_cons_self
    | i + 1, h =>
      have h : (iniL r)[i]? = some (some v) := by simpa [iniL] using h
      have := iniL_args ad r (n + 1) i v h
      rw [show n + (i + 1) = n + 1 + i by omega]
      exact List.mem_cons_of_mem _ this
  | some (.inr (.inl x)) :: r, n, i, v, h => by
    show _ ∈ (n, Value.ref (ad x)) :: lv_args (n + 1) (r.map (vp ad))
    match i, h with
    | 0, h =>
      simp [iniL] at h
      subst h
      exact List.mem_cons_self
    | i + 1, h =>
      have h : (iniL r)[i]? = some (some v) := by simpa [iniL] using h
      have := iniL_args ad r (n + 1) i v h
      rw [show n + (i + 1) = n + 1 + i by omega]
      exact List.mem_cons_of_mem _ this
theorem iniL_len (ad : Nat → Nat) : ∀ as : List PV, (lg_sl (as.map (vp ad))).length = (iniL as).length
  | [] => rfl
  | some (.inr (.inr x)) :: r => by
    have := iniL_len ad r
    simp [lg_sl, iniL, vp, Value.category] at this ⊢
    omega
  | none :: r => by
    have := iniL_len ad r
    simp [lg_sl, iniL, vp, Value.category] at this ⊢
    omega
  | some (.inl x) :: r => by
    have := iniL_len ad r
    simp [lg_sl, iniL, vp, Value.category] at this ⊢
    omega
  | some (.inr (.inl x)) :: r => by
    have := iniL_len ad r
    simp [lg_sl, iniL, vp, Value.category] at this ⊢
    omega
theorem LR.ini (ad : Nat → Nat) (as : List PV) {n : Nat} (h : (iniL as).length ≤ n) : LR ad n (iniN as n) ((lg_sl (as.map (vp ad)) ++ List.replicate (n - (lg_sl (as.map (vp ad))).length) Slot.unset).toArray) := by
  refine ⟨_, lv_entry (as.map (vp ad)) (by rw [iniL_len]; exact h), ?_, fun i v hi => ?_⟩
  · simp [iniN]; omega
  · unfold iniN at hi
    by_cases hl : i < (iniL as).length
    · rw [List.getElem?_append_left hl] at hi
      have := iniL_args ad as 0 i v hi
      rwa [Nat.zero_add] at this
    · rw [List.getElem?_append_right (by omega), List.getElem?_replicate] at hi
      split at hi <;> cases hi
/-! THE LAYOUT: 0 the script, 1 and 2 the two tables of the class, 3 to 10 the class's own cells, 11 to 14 ghosts (no machine has them), then eight states of 22 cells each -/
def RC (ci : Nat) : String := match ci with | 0 => RX0 | 1 => RX1 | 2 => RX2 | 3 => RX0 | 4 => RX4 | 5 => RX5 | _ => RX6
def TC (ci : Nat) : u_T := match ci with | 0 => TX0 | 1 => TX1 | 2 => TX2 | 3 => TX0 | 4 => TX4 | 5 => TX5 | _ => TX6
def tyC (ci : Nat) : Nat → FieldType := match ci with | 0 => tyX0 | 1 => tyX1 | 2 => tyX2 | 3 => tyX0 | 4 => tyX4 | 5 => tyX5 | _ => tyX6
def nfC (ci : Nat) : Nat := match ci with | 0 => 5 | 1 => 3 | 2 => 5 | 3 => 5 | 4 => 9 | 5 => 8 | _ => 6
def clsL : List vw_C := [(RX0, TX0, 5), (RX1, TX1, 3), (RX2, TX2, 5), (RX0, TX0, 5), (RX4, TX4, 9), (RX5, TX5, 8), (RX6, TX6, 6)]
theorem clsL_at {ci : Nat} (h : ci < 7) : clsL[ci]? = some (RC ci, TC ci, nfC ci) := by
  match ci, h with
  | 0, _ => rfl | 1, _ => rfl | 2, _ => rfl | 3, _ => rfl | 4, _ => rfl | 5, _ => rfl | 6, _ => rfl
theorem tyC_ok {ci : Nat} (h : ci < 7) : ∀ k, k < nfC ci → parseFieldDescriptor (TC ci k).2.2.1 = some (tyC ci k) := by
  match ci, h with
  | 0, _ => exact tyX0_ok | 1, _ => exact tyX1_ok | 2, _ => exact tyX2_ok | 3, _ => exact tyX0_ok | 4, _ => exact tyX4_ok | 5, _ => exact tyX5_ok | 6, _ => exact tyX6_ok
theorem nmC_ok {ci : Nat} (h : ci < 7) : ∀ a, a < nfC ci → ∀ b, b < nfC ci → a ≠ b → (TC ci a).2.1 ≠ (TC ci b).2.1 := by
  match ci, h with
  | 0, _ => exact nmX0 | 1, _ => exact nmX1 | 2, _ => exact nmX2 | 3, _ => exact nmX0 | 4, _ => exact nmX4 | 5, _ => exact nmX5 | 6, _ => exact nmX6
/-- a state's 22 cells, from the cell a on -/
def layS (a i : Nat) : Kd := match i with
  | 0 => .inl (4, fun k => match k with | 0 => some (a + 1) | 1 => some (a + 2) | 2 => some (a + 3) | 3 => some (a + 4) | 4 => some (a + 11) | _ => none)
  | 1 => .inr (.inl (0, 6))
  | 2 => .inr (.inl (0, 6))
  | 3 => .inr (.inl (0, 5))
  | 4 => .inr (.inr (5, 3, fun k => a + 5 + 2 * k))
  | 5 => .inl (0, fun k => match k with | 0 => some (a + 6) | _ => none)
  | 6 => .inr (.inl (0, 16))
  | 7 => .inl (0, fun k => match k with | 0 => some (a + 8) | _ => none)
  | 8 => .inr (.inl (0, 16))
  | 9 => .inl (0, fun k => match k with | 0 => some (a + 10) | _ => none)
  | 10 => .inr (.inl (0, 16))
  | 11 => .inl (5, fun k => match k with | 1 => some (a + 12) | 2 => some (a + 13) | 3 => some (a + 17) | 4 => some (a + 18) | 5 => some (a + 19) | 6 => some (a + 20) | 7 => some (a + 21) | _ => none)
  | 13 => .inr (.inr (3, 3, fun k => a + 14 + k))
  | _ => .inr (.inl (0, 64))
def LAY (L : Nat) (r : Nat) : Kd := match r with
  | 0 => .inr (.inl (0, L))
  | 1 => .inr (.inl (0, 6))
  | 2 => .inr (.inl (0, 6))
  | 3 => .inl (6, fun k => match k with | 0 => some 15 | 1 => some 37 | 2 => some 4 | 3 => some 6 | 4 => some 7 | 5 => some 8 | _ => none)
  | 4 => .inl (1, fun k => match k with | 0 => some 5 | _ => none)
  | 5 => .inr (.inr (4, 4, fun k => 103 + 22 * k))
  | 6 => .inr (.inr (4, 2, fun k => 59 + 22 * k))
  | 7 => .inr (.inl (2, 2))
  | 8 => .inl (2, fun k => match k with | 0 => some 9 | 3 => some 10 | _ => none)
  | 9 => .inr (.inl (1, 60))
  | 10 => .inr (.inl (0, 3))
  | 11 => .inr (.inl (0, 8))
  | 12 => .inr (.inl (0, 5296))
  | 13 => .inr (.inl (2, 2))
  | 14 => .inr (.inl (0, 60))
  | r + 15 => layS (r / 22 * 22 + 15) (r % 22)
theorem LAY_st (L a i : Nat) (ha : 15 ≤ a) (h22 : (a - 15) % 22 = 0) (hi : i < 22) : LAY L (a + i) = layS a i := by
  obtain ⟨j, rfl⟩ : ∃ j, a = 15 + 22 * j := ⟨(a - 15) / 22, by omega⟩
  rw [show 15 + 22 * j + i = (22 * j + i) + 15 by omega]
  show layS ((22 * j + i) / 22 * 22 + 15) ((22 * j + i) % 22) = _
  rw [show (22 * j + i) / 22 * 22 + 15 = 15 + 22 * j by omega, show (22 * j + i) % 22 = i by omega]
def tagT (t : Nat) : FieldType := match t with | 0 => .int | 1 => .char | 2 => .boolean | 3 => .array .int | 4 => .object RX4 | _ => .object RX0
def tysL (cA : Nat → ClassId) : List (ClassId × FieldType) := [(cA 0, .int), (cA 1, .char), (cA 2, .boolean), (cA 3, .array .int), (cA 4, .object RX4), (cA 5, .object RX0)]
theorem tysL_at (cA : Nat → ClassId) {t : Nat} (h : t < 6) : (tysL cA)[t]? = some (cA t, tagT t) := by
  match t, h with
  | 0, _ => rfl | 1, _ => rfl | 2, _ => rfl | 3, _ => rfl | 4, _ => rfl | 5, _ => rfl
theorem layS_ok (a i : Nat) : (∀ ci f, layS a i = .inl (ci, f) → ci < 7) ∧ (∀ t n, layS a i = .inr (.inl (t, n)) → t < 6 ∧ n < 2147483648) ∧ (∀ t n f, layS a i = .inr (.inr (t, n, f)) → t < 6 ∧ 3 ≤ t ∧ n < 2147483648) := by
  unfold layS
  split <;> (refine ⟨?_, ?_, ?_⟩ <;> intros <;> simp_all <;> omega)
theorem LAY_ok {L : Nat} (hL : L < 2147483648) (r : Nat) : (∀ ci f, LAY L r = .inl (ci, f) → ci < 7) ∧ (∀ t n, LAY L r = .inr (.inl (t, n)) → t < 6 ∧ n < 2147483648) ∧ (∀ t n f, LAY L r = .inr (.inr (t, n, f)) → t < 6 ∧ 3 ≤ t ∧ n < 2147483648) := by
  unfold LAY
  split
  case h_16 => exact layS_ok _ _
  all_goals (refine ⟨?_, ?_, ?_⟩ <;> intros <;> simp_all <;> omega)
def ceV (ad : Nat → Nat) (f : Nat → Option Nat) (m : Nat → Int) (k : Nat) : Value := match f k with | some r => .ref (ad r) | none => .int (Int32.ofInt (m k))
def ceE (ad : Nat → Nat) (cA : Nat → ClassId) (kd : Kd) (m : Nat → Int) : va_E := match kd with
  | .inl (ci, f) => .inr (ci, (List.range (nfC ci)).map (ceV ad f m))
  | .inr (.inl (t, n)) => .inl (cA t, n, .inl (fun j => Int32.ofInt (m j)))
  | .inr (.inr (t, n, f)) => .inl (cA t, n, .inr (.inr (.inr (.inr (fun j => if j < n then some (ad (f j)) else none)))))
/-- a cell's contents, by natural places -/
def nt_ (f : Int → Int) : Nat → Int := fun j => f (j : Int)
/-- the cells that the machine has: all but 11 to 14 -/
abbrev rOK (r : Nat) : Prop := 3 ≤ r ∧ r < 191 ∧ (r < 11 ∨ 15 ≤ r)
def wce (k : Nat) : Nat := if k < 8 then k + 3 else k + 7
def wpo (r : Nat) : Nat := if r < 11 then r - 3 else r - 7
theorem wce_ok {k : Nat} (h : k < 184) : rOK (wce k) := by unfold wce rOK; split <;> omega
theorem wpo_lt {r : Nat} (h : rOK r) : wpo r < 184 := by unfold rOK at h; unfold wpo; split <;> omega
theorem wce_wpo {r : Nat} (h : rOK r) : wce (wpo r) = r := by unfold rOK at h; unfold wce wpo; split <;> split <;> omega
theorem wpo_wce {k : Nat} (h : k < 184) : wpo (wce k) = k := by unfold wce wpo; split <;> split <;> omega
def wld (ad : Nat → Nat) (cA : Nat → ClassId) (L : Nat) (M : Mem) : va_W := (List.range 184).map (fun k => (ad (wce k), ceE ad cA (LAY L (wce k)) (nt_ (M (wce k)))))
theorem wld_ai {ad : Nat → Nat} {cA : Nat → ClassId} {L : Nat} {M : Mem} {k : Nat} (h : k < 184) : (wld ad cA L M)[k]? = some (ad (wce k), ceE ad cA (LAY L (wce k)) (nt_ (M (wce k)))) := by
  unfold wld
  rw [List.getElem?_map, List.getElem?_range h]
  rfl
theorem wld_at {ad : Nat → Nat} {cA : Nat → ClassId} {L : Nat} {M : Mem} {r : Nat} (h : rOK r) : (wld ad cA L M)[wpo r]? = some (ad r, ceE ad cA (LAY L r) (nt_ (M r))) := by
  rw [wld_ai (wpo_lt h), wce_wpo h]
theorem wld_len {ad : Nat → Nat} {cA : Nat → ClassId} {L : Nat} {M : Mem} : (wld ad cA L M).length = 184 := by simp [wld]
theorem wld_set {ad : Nat → Nat} {cA : Nat → ClassId} {L : Nat} {M M' : Mem} {r : Nat} (h : rOK r) (ho : ∀ r', r' ≠ r → M' r' = M r') : (wld ad cA L M).set (wpo r) (ad r, ceE ad cA (LAY L r) (nt_ (M' r))) = wld ad cA L M' := by
  apply List.ext_getElem?
  intro i
  by_cases hi : i < 184
  · rw [wld_ai hi]
    by_cases e : i = wpo r
    · subst e
      rw [List.getElem?_set_self (by rw [wld_len]; exact hi), wce_wpo h]
    · rw [List.getElem?_set_ne (Ne.symm e), wld_ai hi, ho (wce i) (fun z => e (by rw [← z, wpo_wce hi]))]
  · rw [List.getElem?_eq_none (by rw [List.length_set, wld_len]; omega), List.getElem?_eq_none (by rw [wld_len]; omega)]
theorem upM_ne {M : Mem} {r : Nat} {k x : Int} : ∀ r', r' ≠ r → upM M r k x r' = M r' := fun r' h => by funext k'; simp [upM, h]
theorem cpM_ne {M : Mem} {r0 r1 : Nat} {sp dp n : Int} : ∀ r', r' ≠ r1 → cpM M r0 sp r1 dp n r' = M r' := fun r' h => by funext k'; simp [cpM, h]
theorem upM_eq {M : Mem} {r k : Nat} {k1 x : Int} (hk : (k : Int) = k1) : nt_ (upM M r k1 x r) = fun k' => if k' = k then x else nt_ (M r) k' := by
  subst hk
  funext k'
  by_cases e : k' = k
  · simp [upM, nt_, e]
  · simp [upM, nt_, e, show ¬ ((k' : Int) = k) by omega]
/-- addresses: apart, and in A -/
def adOK (ad : Nat → Nat) (A : Nat → Prop) : Prop := (∀ r r', rOK r → rOK r' → ad r = ad r' → r = r') ∧ ∀ r, rOK r → A (ad r)
theorem wld_get {ad : Nat → Nat} {cA : Nat → ClassId} {L : Nat} {M : Mem} {i : Nat} {q : Nat × va_E} (h : (wld ad cA L M)[i]? = some q) : i < 184 ∧ q = (ad (wce i), ceE ad cA (LAY L (wce i)) (nt_ (M (wce i)))) := by
  have hi : i < 184 := by
    have := (List.getElem?_eq_some_iff.mp h).1
    rwa [wld_len] at this
  have := wld_ai (ad := ad) (cA := cA) (L := L) (M := M) hi
  rw [h] at this
  exact ⟨hi, Option.some.inj this⟩
theorem adOK.D {ad : Nat → Nat} {A : Nat → Prop} (h : adOK ad A) (cA : Nat → ClassId) (L : Nat) (M : Mem) : va_D A (wld ad cA L M) := by
  refine ⟨fun i j p q hi hj he => ?_, fun k q hk => ?_⟩
  · obtain ⟨a1, rfl⟩ := wld_get hi
    obtain ⟨a2, rfl⟩ := wld_get hj
    have e := h.1 _ _ (wce_ok a1) (wce_ok a2) he
    rw [← wpo_wce a1, e, wpo_wce a2]
  · obtain ⟨a1, rfl⟩ := wld_get hk
    exact h.2 _ (wce_ok a1)
theorem ceV_at {ad : Nat → Nat} {f : Nat → Option Nat} {m : Nat → Int} {n k : Nat} (h : k < n) : ((List.range n).map (ceV ad f m))[k]? = some (ceV ad f m k) := by
  rw [List.getElem?_map, List.getElem?_range h]
  rfl
theorem ceV_set {ad : Nat → Nat} {f : Nat → Option Nat} {m m' : Nat → Int} {n k : Nat} {x : Int} (hf : f k = none) (hm : m' = fun k' => if k' = k then x else m k') : ((List.range n).map (ceV ad f m)).set k (.int (Int32.ofInt x)) = (List.range n).map (ceV ad f m') := by
  subst hm
  apply List.ext_getElem?
  intro i
  by_cases hi : i < n
  · rw [ceV_at hi]
    by_cases e : i = k
    · subst e
      rw [List.getElem?_set_self (by simpa using hi)]
      simp [ceV, hf]
    · rw [List.getElem?_set_ne (Ne.symm e), ceV_at hi]
      simp [ceV, e]
  · rw [List.getElem?_eq_none (by simp; omega), List.getElem?_eq_none (by simp; omega)]
/-- the contents that nobody writes: the script, the two tables -/
def exN (L r : Nat) : Nat := match r with | 0 => L | _ => 6
def Ext (ad : Nat → Nat) (L : Nat) (xc : Nat → Int → Int) (A : Nat → Prop) (U : State) (H : Heap) : Prop :=
  (∀ r, r < 3 → va_T .int (ad r) (exN L r) (fun j => .int (Int32.ofInt (nt_ (xc r) j))) A U H) ∧ va_Z "DoubtfulTrunks" "LEAST_SETTINGS" "[I" (.ref (ad 1)) A U H ∧ va_Z "DoubtfulTrunks" "MOST_SETTINGS" "[I" (.ref (ad 2)) A U H
theorem LAY_ex {L r : Nat} (h : r < 3) : LAY L r = .inr (.inl (0, exN L r)) := by
  match r, h with
  | 0, _ => rfl | 1, _ => rfl | 2, _ => rfl
theorem Ext.moved {ad : Nat → Nat} {L : Nat} {xc : Nat → Int → Int} {A : Nat → Prop} {u U : State} {H : Heap} (hvm : u.vm.Alike U.vm) (h : Ext ad L xc A u H) : Ext ad L xc A U H := ⟨fun r hr => (h.1 r hr).moved hvm, h.2.1.moved hvm, h.2.2.moved hvm⟩
theorem Ext.kept {ad : Nat → Nat} {L : Nat} {xc : Nat → Int → Int} {A : Nat → Prop} {U : State} {H H1 : Heap} (h : Ext ad L xc A U H) (hq : ∀ a : Nat, a < H.size → ¬ A a → H1[a]? = H[a]?) : Ext ad L xc A U H1 := ⟨fun r hr => (h.1 r hr).kept hq, h.2.1.kept hq, h.2.2.kept hq⟩
theorem wld_co {ad : Nat → Nat} {cA : Nat → ClassId} {L : Nat} {M M2 : Mem} (h : ∀ r, rOK r → M2 r = M r) : wld ad cA L M2 = wld ad cA L M := by
  unfold wld
  refine List.map_congr_left fun k hk => ?_
  rw [h (wce k) (wce_ok (List.mem_range.mp hk))]
/-- a cell that no machine has: a row that a contract speaks of -/
def gho (M : Mem) (f : Int → Int) : Mem := fun r => if r = 200 then f else M r
theorem gho_g (M : Mem) (f : Int → Int) : gho M f 200 = f := if_pos rfl
theorem gho_r (M : Mem) (f : Int → Int) {r : Nat} (h : r < 191) : gho M f r = M r := if_neg (by omega)
