/-! ALL CELLS, as they are behind the two constructors: the world of the pure machine -/
def fnI (F : Nat → Int32) : Int → Int := fun k => (F k.toNat).toInt
theorem fnI_ok (F : Nat → Int32) : (fun j => Int32.ofInt (nt_ (fnI F) j)) = F := by
  funext j
  show Int32.ofInt (F ((j : Int)).toNat).toInt = F j
  rw [Int.toNat_natCast, Int32.ofInt_toInt]
def stM (i : Nat) : Int → Int := match i with
  | 1 => fnI F_set
  | 2 => fnI F_wgt
  | 3 => fnI F_tru
  | 5 => fun k => if k = 2 then 1 else 0
  | 7 => fun k => if k = 2 then 1 else 0
  | 9 => fun k => if k = 2 then 1 else 0
  | _ => fun _ => 0
def M0 : Mem := fun r => if r = 12 then fnI F_ref else if r < 15 then (fun _ => 0) else stM ((r - 15) % 22)
/-- which of the cells in the order of their making is the cell r -/
def cr (r : Nat) : Nat := if r < 15 then (match r with | 3 => 0 | 4 => 45 | 5 => 46 | 6 => 135 | 7 => 180 | 8 => 181 | 9 => 182 | 10 => 183 | _ => 200) else if r < 59 then r - 14 else if r < 103 then r + 77 else r - 56
theorem cr_b0 : ∀ r, r < 191 → rOK r → cr r < 184 := by decide +kernel
theorem cr_b (r : Nat) (h : rOK r) : cr r < 184 := cr_b0 r h.2.1 h
def icr (c : Nat) : Nat := if c = 0 then 3 else if c = 45 then 4 else if c = 46 then 5 else if c = 135 then 6 else if 180 ≤ c then c - 173 else if c < 45 then c + 14 else if c < 135 then c + 56 else c - 77
theorem cr_inj0 : ∀ r, r < 191 → rOK r → icr (cr r) = r := by decide +kernel
theorem cr_inj (r r' : Nat) (h : rOK r) (h' : rOK r') : cr r = cr r' → r = r' := fun e => by rw [← cr_inj0 r h.2.1 h, e, cr_inj0 r' h'.2.1 h']
def ADf (b t1 t2 : Nat) (f : Nat → Nat) : Nat → Nat := fun r => if r = 0 then b else if r = 1 then t1 else if r = 2 then t2 else f (cr r)
theorem ADf_c {b t1 t2 : Nat} {f : Nat → Nat} {r : Nat} (h : 3 ≤ r) : ADf b t1 t2 f r = f (cr r) := by
  unfold ADf
  rw [if_neg (by omega), if_neg (by omega), if_neg (by omega)]
def WA (f : Nat → Nat) (cA : Nat → ClassId) : va_W := wX f cA
set_option maxRecDepth 100000 in
theorem WA_f (f : Nat → Nat) (cA : Nat → ClassId) : (WA f cA).map Prod.fst = (List.range 184).map f := rfl
theorem WA_at (f : Nat → Nat) (cA : Nat → ClassId) {i : Nat} (h : i < 184) : ∃ e, (WA f cA)[i]? = some (f i, e) := by
  have := congrArg (fun l => l[i]?) (WA_f f cA)
  simp only [List.getElem?_map, List.getElem?_range h, Option.map_some] at this
  cases e : (WA f cA)[i]? with
  | none => rw [e] at this; cases this
  | some q =>
    rw [e] at this
    have this : some q.1 = some (f i) := this
    exact ⟨q.2, by rw [← Option.some.inj this]⟩
theorem WA_ad {A : Nat → Prop} {f : Nat → Nat} {cA : Nat → ClassId} (b t1 t2 : Nat) (hD : va_D A (WA f cA)) : adOK (ADf b t1 t2 f) A := by
  refine ⟨fun r r' h h' e => ?_, fun r h => ?_⟩
  · rw [ADf_c h.1, ADf_c h'.1] at e
    obtain ⟨e1, w1⟩ := WA_at f cA (cr_b r h)
    obtain ⟨e2, w2⟩ := WA_at f cA (cr_b r' h')
    exact cr_inj r r' h h' (hD.1 _ _ _ _ w1 w2 e)
  · rw [ADf_c h.1]
    obtain ⟨e1, w1⟩ := WA_at f cA (cr_b r h)
    exact hD.2 _ _ w1
theorem up2 {x y : Nat} {g : Nat → Nat} (h0 : g 0 = x) (h1 : g 1 = y) : va_up (va_up (fun _ => none) 0 (some x)) 1 (some y) = fun j => if j < 2 then some (g j) else none := by
  funext j
  unfold va_up
  by_cases z : j < 2
  · rw [if_pos z]
    have : j = 0 ∨ j = 1 := by omega
    rcases this with rfl | rfl
    · rw [if_neg (by omega), if_pos rfl, h0]
    · rw [if_pos rfl, h1]
  · rw [if_neg z, if_neg (by omega), if_neg (by omega)]
theorem up3 {x y w : Nat} {g : Nat → Nat} (h0 : g 0 = x) (h1 : g 1 = y) (h2 : g 2 = w) : va_up (va_up (va_up (fun _ => none) 0 (some x)) 1 (some y)) 2 (some w) = fun j => if j < 3 then some (g j) else none := by
  funext j
  unfold va_up
  by_cases z : j < 3
  · rw [if_pos z]
    have : j = 0 ∨ j = 1 ∨ j = 2 := by omega
    rcases this with rfl | rfl | rfl
    · rw [if_neg (by omega), if_neg (by omega), if_pos rfl, h0]
    · rw [if_neg (by omega), if_pos rfl, h1]
    · rw [if_pos rfl, h2]
  · rw [if_neg z, if_neg (by omega), if_neg (by omega), if_neg (by omega)]
theorem up4 {x y w v : Nat} {g : Nat → Nat} (h0 : g 0 = x) (h1 : g 1 = y) (h2 : g 2 = w) (h3 : g 3 = v) : va_up (va_up (va_up (va_up (fun _ => none) 0 (some x)) 1 (some y)) 2 (some w)) 3 (some v) = fun j => if j < 4 then some (g j) else none := by
  funext j
  unfold va_up
  by_cases z : j < 4
  · rw [if_pos z]
    have : j = 0 ∨ j = 1 ∨ j = 2 ∨ j = 3 := by omega
    rcases this with rfl | rfl | rfl | rfl
    · rw [if_neg (by omega), if_neg (by omega), if_neg (by omega), if_pos rfl, h0]
    · rw [if_neg (by omega), if_neg (by omega), if_pos rfl, h1]
    · rw [if_neg (by omega), if_pos rfl, h2]
    · rw [if_pos rfl, h3]
  · rw [if_neg z, if_neg (by omega), if_neg (by omega), if_neg (by omega), if_neg (by omega)]
set_option maxRecDepth 100000 in
theorem stO_at (AD : Nat → Nat) (cA : Nat → ClassId) (a : Nat) {i : Nat} (h : i < 22) : (stO (fun i => AD (a + i)) cA)[i]? = some (AD (a + i), ceE AD cA (layS a i) (nt_ (stM i))) := by
  rcases (show i = 0 ∨ i = 1 ∨ i = 2 ∨ i = 3 ∨ i = 4 ∨ i = 5 ∨ i = 6 ∨ i = 7 ∨ i = 8 ∨ i = 9 ∨ i = 10 ∨ i = 11 ∨ i = 12 ∨ i = 13 ∨ i = 14 ∨ i = 15 ∨ i = 16 ∨ i = 17 ∨ i = 18 ∨ i = 19 ∨ i = 20 ∨ i = 21 by omega) with rfl | rfl | rfl | rfl | rfl | rfl | rfl | rfl | rfl | rfl | rfl | rfl | rfl | rfl | rfl | rfl | rfl | rfl | rfl | rfl | rfl | rfl
  · rfl
  · show some (AD (a + 1), (.inl (cA 0, 6, .inl F_set) : va_E)) = some (AD (a + 1), .inl (cA 0, 6, .inl (fun j => Int32.ofInt (nt_ (fnI F_set) j))))
    rw [fnI_ok]
  · show some (AD (a + 2), (.inl (cA 0, 6, .inl F_wgt) : va_E)) = some (AD (a + 2), .inl (cA 0, 6, .inl (fun j => Int32.ofInt (nt_ (fnI F_wgt) j))))
    rw [fnI_ok]
  · show some (AD (a + 3), (.inl (cA 0, 5, .inl F_tru) : va_E)) = some (AD (a + 3), .inl (cA 0, 5, .inl (fun j => Int32.ofInt (nt_ (fnI F_tru) j))))
    rw [fnI_ok]
  · show some (AD (a + 4), (.inl (cA 5, 3, .inr (.inr (.inr (.inr (va_up (va_up (va_up (fun _ => none) 0 (some (AD (a + 5)))) 1 (some (AD (a + 7)))) 2 (some (AD (a + 9)))))))) : va_E)) = some (AD (a + 4), .inl (cA 5, 3, .inr (.inr (.inr (.inr (fun j => if j < 3 then some (AD (a + 5 + 2 * j)) else none))))))
    rw [up3 (g := fun j => AD (a + 5 + 2 * j)) rfl rfl rfl]
  · rfl
  · rfl
  · rfl
  · rfl
  · rfl
  · rfl
  · rfl
  · rfl
  · show some (AD (a + 13), (.inl (cA 3, 3, .inr (.inr (.inr (.inr (va_up (va_up (va_up (fun _ => none) 0 (some (AD (a + 14)))) 1 (some (AD (a + 15)))) 2 (some (AD (a + 16)))))))) : va_E)) = some (AD (a + 13), .inl (cA 3, 3, .inr (.inr (.inr (.inr (fun j => if j < 3 then some (AD (a + 14 + j)) else none))))))
    rw [up3 (g := fun j => AD (a + 14 + j)) rfl rfl rfl]
  · rfl
  · rfl
  · rfl
  · rfl
  · rfl
  · rfl
  · rfl
  · rfl
theorem stO_len (g : Nat → Nat) (cA : Nat → ClassId) : (stO g cA).length = 22 := rfl
theorem ix_r {α : Type} {A B : List α} {n i : Nat} (h : A.length = n) : (A ++ B)[n + i]? = B[i]? := by
  subst h
  rw [List.getElem?_append_right (by omega)]
  congr 1
  omega
theorem ix1 {α : Type} {x : α} {B : List α} {i : Nat} : ([x] ++ B)[1 + i]? = B[i]? := ix_r rfl
theorem ix2 {α : Type} {x y : α} {B : List α} {i : Nat} : ([x, y] ++ B)[2 + i]? = B[i]? := ix_r rfl
theorem ixS {g : Nat → Nat} {cA : Nat → ClassId} {B : va_W} {i : Nat} : (stO g cA ++ B)[22 + i]? = B[i]? := ix_r rfl
theorem ixP {g : Nat → Nat} {cA : Nat → ClassId} {B : va_W} {i : Nat} : (wP g cA ++ B)[3 + i]? = B[i]? := ix_r rfl
theorem WA_eq (f : Nat → Nat) (cA : Nat → ClassId) : WA f cA = [(f 0, .inr (6, [.ref (f 1), .ref (f 23), .ref (f 45), .ref (f 135), .ref (f 180), .ref (f 181)]))] ++ (stO (fun i => f (1 + i)) cA ++ (stO (fun i => f (23 + i)) cA ++ ([(f (45 + 0), .inr (1, [.ref (f (45 + 1)), .int 0, .int 0])), (f (45 + 1), .inl (cA 4, 4, .inr (.inr (.inr (.inr (va_up (va_up (va_up (va_up (fun _ => none) 0 (some (f (45 + 2)))) 1 (some (f (45 + 24)))) 2 (some (f (45 + 46)))) 3 (some (f (45 + 68)))))))))] ++ (stO (fun i => f (45 + (2 + i))) cA ++ (stO (fun i => f (45 + (24 + i))) cA ++ (stO (fun i => f (45 + (46 + i))) cA ++ (stO (fun i => f (45 + (68 + i))) cA ++ ([(f 135, .inl (cA 4, 2, .inr (.inr (.inr (.inr (va_up (va_up (fun _ => none) 0 (some (f 136))) 1 (some (f 158)))))))) ] ++ (stO (fun i => f (136 + i)) cA ++ (stO (fun i => f (158 + i)) cA ++ ([(f 180, .inl (cA 2, 2, .inl (fun _ => 0)))] ++ (wP (fun i => f (181 + i)) cA)))))))))))) := by
  unfold WA wX wH
  simp only [List.append_assoc]
theorem stO_cg {g h : Nat → Nat} (cA : Nat → ClassId) (e : ∀ i, i < 22 → g i = h i) : stO g cA = stO h cA := by

  have e0 := e 0 (by omega)
  have e1 := e 1 (by omega)
  have e2 := e 2 (by omega)
  have e3 := e 3 (by omega)
  have e4 := e 4 (by omega)
  have e5 := e 5 (by omega)
  have e6 := e 6 (by omega)
  have e7 := e 7 (by omega)
  have e8 := e 8 (by omega)
  have e9 := e 9 (by omega)
  have e10 := e 10 (by omega)
  have e11 := e 11 (by omega)
  have e12 := e 12 (by omega)
  have e13 := e 13 (by omega)
  have e14 := e 14 (by omega)
  have e15 := e 15 (by omega)
  have e16 := e 16 (by omega)
  have e17 := e 17 (by omega)
  have e18 := e 18 (by omega)
  have e19 := e 19 (by omega)
  have e20 := e 20 (by omega)
  have e21 := e 21 (by omega)
  unfold stO wD wT
  simp only [Nat.reduceAdd, e0, e1, e2, e3, e4, e5, e6, e7, e8, e9, e10, e11, e12, e13, e14, e15, e16, e17, e18, e19, e20, e21]
theorem WA_s0 (b t1 t2 : Nat) (f : Nat → Nat) (cA : Nat → ClassId) {i : Nat} (h : i < 22) : (WA f cA)[cr (15 + i)]? = (stO (fun i => ADf b t1 t2 f (15 + i)) cA)[i]? := by
  have hc : ∀ i, i < 22 → cr (15 + i) = 1 + (i) := fun i h => by
    unfold cr
    rw [if_neg (by omega)]
    rw [if_pos (by omega)]
    omega
  rw [hc i h, WA_eq, ix1, List.getElem?_append_left (by rw [stO_len]; exact h)]
  rw [stO_cg cA (fun i h => ?_)]
  show f _ = ADf b t1 t2 f (15 + i)
  rw [ADf_c (by omega), hc i h]
  all_goals first
    | rfl
    | (congr 1 <;> omega)
theorem WA_s1 (b t1 t2 : Nat) (f : Nat → Nat) (cA : Nat → ClassId) {i : Nat} (h : i < 22) : (WA f cA)[cr (37 + i)]? = (stO (fun i => ADf b t1 t2 f (37 + i)) cA)[i]? := by
  have hc : ∀ i, i < 22 → cr (37 + i) = 1 + (22 + (i)) := fun i h => by
    unfold cr
    rw [if_neg (by omega)]
    rw [if_pos (by omega)]
    omega
  rw [hc i h, WA_eq, ix1, ixS, List.getElem?_append_left (by rw [stO_len]; exact h)]
  rw [stO_cg cA (fun i h => ?_)]
  show f _ = ADf b t1 t2 f (37 + i)
  rw [ADf_c (by omega), hc i h]
  all_goals first
    | rfl
    | (congr 1 <;> omega)
theorem WA_s2 (b t1 t2 : Nat) (f : Nat → Nat) (cA : Nat → ClassId) {i : Nat} (h : i < 22) : (WA f cA)[cr (59 + i)]? = (stO (fun i => ADf b t1 t2 f (59 + i)) cA)[i]? := by
  have hc : ∀ i, i < 22 → cr (59 + i) = 1 + (22 + (22 + (2 + (22 + (22 + (22 + (22 + (1 + (i))))))))) := fun i h => by
    unfold cr
    rw [if_neg (by omega)]
    rw [if_neg (by omega), if_pos (by omega)]
    omega
  rw [hc i h, WA_eq, ix1, ixS, ixS, ix2, ixS, ixS, ixS, ixS, ix1, List.getElem?_append_left (by rw [stO_len]; exact h)]
  rw [stO_cg cA (fun i h => ?_)]
  show f _ = ADf b t1 t2 f (59 + i)
  rw [ADf_c (by omega), hc i h]
  all_goals first
    | rfl
    | (congr 1 <;> omega)
theorem WA_s3 (b t1 t2 : Nat) (f : Nat → Nat) (cA : Nat → ClassId) {i : Nat} (h : i < 22) : (WA f cA)[cr (81 + i)]? = (stO (fun i => ADf b t1 t2 f (81 + i)) cA)[i]? := by
  have hc : ∀ i, i < 22 → cr (81 + i) = 1 + (22 + (22 + (2 + (22 + (22 + (22 + (22 + (1 + (22 + (i)))))))))) := fun i h => by
    unfold cr
    rw [if_neg (by omega)]
    rw [if_neg (by omega), if_pos (by omega)]
    omega
  rw [hc i h, WA_eq, ix1, ixS, ixS, ix2, ixS, ixS, ixS, ixS, ix1, ixS, List.getElem?_append_left (by rw [stO_len]; exact h)]
  rw [stO_cg cA (fun i h => ?_)]
  show f _ = ADf b t1 t2 f (81 + i)
  rw [ADf_c (by omega), hc i h]
  all_goals first
    | rfl
    | (congr 1 <;> omega)
theorem WA_s4 (b t1 t2 : Nat) (f : Nat → Nat) (cA : Nat → ClassId) {i : Nat} (h : i < 22) : (WA f cA)[cr (103 + i)]? = (stO (fun i => ADf b t1 t2 f (103 + i)) cA)[i]? := by
  have hc : ∀ i, i < 22 → cr (103 + i) = 1 + (22 + (22 + (2 + (i)))) := fun i h => by
    unfold cr
    rw [if_neg (by omega)]
    rw [if_neg (by omega), if_neg (by omega)]
    omega
  rw [hc i h, WA_eq, ix1, ixS, ixS, ix2, List.getElem?_append_left (by rw [stO_len]; exact h)]
  rw [stO_cg cA (fun i h => ?_)]
  show f _ = ADf b t1 t2 f (103 + i)
  rw [ADf_c (by omega), hc i h]
  all_goals first
    | rfl
    | (congr 1 <;> omega)
theorem WA_s5 (b t1 t2 : Nat) (f : Nat → Nat) (cA : Nat → ClassId) {i : Nat} (h : i < 22) : (WA f cA)[cr (125 + i)]? = (stO (fun i => ADf b t1 t2 f (125 + i)) cA)[i]? := by
  have hc : ∀ i, i < 22 → cr (125 + i) = 1 + (22 + (22 + (2 + (22 + (i))))) := fun i h => by
    unfold cr
    rw [if_neg (by omega)]
    rw [if_neg (by omega), if_neg (by omega)]
    omega
  rw [hc i h, WA_eq, ix1, ixS, ixS, ix2, ixS, List.getElem?_append_left (by rw [stO_len]; exact h)]
  rw [stO_cg cA (fun i h => ?_)]
  show f _ = ADf b t1 t2 f (125 + i)
  rw [ADf_c (by omega), hc i h]
  all_goals first
    | rfl
    | (congr 1 <;> omega)
theorem WA_s6 (b t1 t2 : Nat) (f : Nat → Nat) (cA : Nat → ClassId) {i : Nat} (h : i < 22) : (WA f cA)[cr (147 + i)]? = (stO (fun i => ADf b t1 t2 f (147 + i)) cA)[i]? := by
  have hc : ∀ i, i < 22 → cr (147 + i) = 1 + (22 + (22 + (2 + (22 + (22 + (i)))))) := fun i h => by
    unfold cr
    rw [if_neg (by omega)]
    rw [if_neg (by omega), if_neg (by omega)]
    omega
  rw [hc i h, WA_eq, ix1, ixS, ixS, ix2, ixS, ixS, List.getElem?_append_left (by rw [stO_len]; exact h)]
  rw [stO_cg cA (fun i h => ?_)]
  show f _ = ADf b t1 t2 f (147 + i)
  rw [ADf_c (by omega), hc i h]
  all_goals first
    | rfl
    | (congr 1 <;> omega)
theorem WA_s7 (b t1 t2 : Nat) (f : Nat → Nat) (cA : Nat → ClassId) {i : Nat} (h : i < 22) : (WA f cA)[cr (169 + i)]? = (stO (fun i => ADf b t1 t2 f (169 + i)) cA)[i]? := by
  have hc : ∀ i, i < 22 → cr (169 + i) = 1 + (22 + (22 + (2 + (22 + (22 + (22 + (i))))))) := fun i h => by
    unfold cr
    rw [if_neg (by omega)]
    rw [if_neg (by omega), if_neg (by omega)]
    omega
  rw [hc i h, WA_eq, ix1, ixS, ixS, ix2, ixS, ixS, ixS, List.getElem?_append_left (by rw [stO_len]; exact h)]
  rw [stO_cg cA (fun i h => ?_)]
  show f _ = ADf b t1 t2 f (169 + i)
  rw [ADf_c (by omega), hc i h]
  all_goals first
    | rfl
    | (congr 1 <;> omega)
set_option maxRecDepth 100000 in
theorem WA_c3 (b t1 t2 : Nat) (f : Nat → Nat) (cA : Nat → ClassId) (L : Nat) : (WA f cA)[cr 3]? = some (ADf b t1 t2 f 3, ceE (ADf b t1 t2 f) cA (LAY L 3) (nt_ (M0 3))) := by
  rw [show cr 3 = 0 from rfl, WA_eq, List.getElem?_append_left (Nat.le_of_ble_eq_true rfl)]
  rfl
set_option maxRecDepth 100000 in
theorem WA_c4 (b t1 t2 : Nat) (f : Nat → Nat) (cA : Nat → ClassId) (L : Nat) : (WA f cA)[cr 4]? = some (ADf b t1 t2 f 4, ceE (ADf b t1 t2 f) cA (LAY L 4) (nt_ (M0 4))) := by
  rw [show cr 4 = 1 + (22 + (22 + (0))) from rfl, WA_eq, ix1, ixS, ixS, List.getElem?_append_left (Nat.le_of_ble_eq_true rfl)]
  rfl
set_option maxRecDepth 100000 in
theorem WA_c5 (b t1 t2 : Nat) (f : Nat → Nat) (cA : Nat → ClassId) (L : Nat) : (WA f cA)[cr 5]? = some (ADf b t1 t2 f 5, ceE (ADf b t1 t2 f) cA (LAY L 5) (nt_ (M0 5))) := by
  rw [show cr 5 = 1 + (22 + (22 + (1))) from rfl, WA_eq, ix1, ixS, ixS, List.getElem?_append_left (Nat.le_of_ble_eq_true rfl)]
  show some (f 46, (.inl (cA 4, 4, .inr (.inr (.inr (.inr (va_up (va_up (va_up (va_up (fun _ => none) 0 (some (f 47))) 1 (some (f 69))) 2 (some (f 91))) 3 (some (f 113))))))) : va_E)) = some (f 46, .inl (cA 4, 4, .inr (.inr (.inr (.inr (fun j => if j < 4 then some (ADf b t1 t2 f (103 + 22 * j)) else none))))))
  rw [up4 (x := f 47) (y := f 69) (w := f 91) (v := f 113) (g := fun j => ADf b t1 t2 f (103 + 22 * j)) rfl rfl rfl rfl]
set_option maxRecDepth 100000 in
theorem WA_c6 (b t1 t2 : Nat) (f : Nat → Nat) (cA : Nat → ClassId) (L : Nat) : (WA f cA)[cr 6]? = some (ADf b t1 t2 f 6, ceE (ADf b t1 t2 f) cA (LAY L 6) (nt_ (M0 6))) := by
  rw [show cr 6 = 1 + (22 + (22 + (2 + (22 + (22 + (22 + (22 + (0)))))))) from rfl, WA_eq, ix1, ixS, ixS, ix2, ixS, ixS, ixS, ixS, List.getElem?_append_left (Nat.le_of_ble_eq_true rfl)]
  show some (f 135, (.inl (cA 4, 2, .inr (.inr (.inr (.inr (va_up (va_up (fun _ => none) 0 (some (f 136))) 1 (some (f 158))))))) : va_E)) = some (f 135, .inl (cA 4, 2, .inr (.inr (.inr (.inr (fun j => if j < 2 then some (ADf b t1 t2 f (59 + 22 * j)) else none))))))
  rw [up2 (x := f 136) (y := f 158) (g := fun j => ADf b t1 t2 f (59 + 22 * j)) rfl rfl]
set_option maxRecDepth 100000 in
theorem WA_c7 (b t1 t2 : Nat) (f : Nat → Nat) (cA : Nat → ClassId) (L : Nat) : (WA f cA)[cr 7]? = some (ADf b t1 t2 f 7, ceE (ADf b t1 t2 f) cA (LAY L 7) (nt_ (M0 7))) := by
  rw [show cr 7 = 1 + (22 + (22 + (2 + (22 + (22 + (22 + (22 + (1 + (22 + (22 + (0))))))))))) from rfl, WA_eq, ix1, ixS, ixS, ix2, ixS, ixS, ixS, ixS, ix1, ixS, ixS, List.getElem?_append_left (Nat.le_of_ble_eq_true rfl)]
  rfl
set_option maxRecDepth 100000 in
theorem WA_c8 (b t1 t2 : Nat) (f : Nat → Nat) (cA : Nat → ClassId) (L : Nat) : (WA f cA)[cr 8]? = some (ADf b t1 t2 f 8, ceE (ADf b t1 t2 f) cA (LAY L 8) (nt_ (M0 8))) := by
  rw [show cr 8 = 1 + (22 + (22 + (2 + (22 + (22 + (22 + (22 + (1 + (22 + (22 + (1 + (0)))))))))))) from rfl, WA_eq, ix1, ixS, ixS, ix2, ixS, ixS, ixS, ixS, ix1, ixS, ixS, ix1]
  rfl
set_option maxRecDepth 100000 in
theorem WA_c9 (b t1 t2 : Nat) (f : Nat → Nat) (cA : Nat → ClassId) (L : Nat) : (WA f cA)[cr 9]? = some (ADf b t1 t2 f 9, ceE (ADf b t1 t2 f) cA (LAY L 9) (nt_ (M0 9))) := by
  rw [show cr 9 = 1 + (22 + (22 + (2 + (22 + (22 + (22 + (22 + (1 + (22 + (22 + (1 + (1)))))))))))) from rfl, WA_eq, ix1, ixS, ixS, ix2, ixS, ixS, ixS, ixS, ix1, ixS, ixS, ix1]
  rfl
set_option maxRecDepth 100000 in
theorem WA_c10 (b t1 t2 : Nat) (f : Nat → Nat) (cA : Nat → ClassId) (L : Nat) : (WA f cA)[cr 10]? = some (ADf b t1 t2 f 10, ceE (ADf b t1 t2 f) cA (LAY L 10) (nt_ (M0 10))) := by
  rw [show cr 10 = 1 + (22 + (22 + (2 + (22 + (22 + (22 + (22 + (1 + (22 + (22 + (1 + (2)))))))))))) from rfl, WA_eq, ix1, ixS, ixS, ix2, ixS, ixS, ixS, ixS, ix1, ixS, ixS, ix1]
  rfl
theorem WA_c (b t1 t2 : Nat) (f : Nat → Nat) (cA : Nat → ClassId) (L : Nat) {r : Nat} (h : rOK r) : (WA f cA)[cr r]? = some (ADf b t1 t2 f r, ceE (ADf b t1 t2 f) cA (LAY L r) (nt_ (M0 r))) := by
  have h0 := h
  unfold rOK at h0
  by_cases h15 : r < 15
  · rcases (show r = 3 ∨ r = 4 ∨ r = 5 ∨ r = 6 ∨ r = 7 ∨ r = 8 ∨ r = 9 ∨ r = 10 by omega) with rfl | rfl | rfl | rfl | rfl | rfl | rfl | rfl
    · exact WA_c3 b t1 t2 f cA L
    · exact WA_c4 b t1 t2 f cA L
    · exact WA_c5 b t1 t2 f cA L
    · exact WA_c6 b t1 t2 f cA L
    · exact WA_c7 b t1 t2 f cA L
    · exact WA_c8 b t1 t2 f cA L
    · exact WA_c9 b t1 t2 f cA L
    · exact WA_c10 b t1 t2 f cA L
  · obtain ⟨j, i, hi, hj, rfl⟩ : ∃ j i : Nat, i < 22 ∧ j < 8 ∧ r = 15 + 22 * j + i := ⟨(r - 15) / 22, (r - 15) % 22, by omega, by omega, by omega⟩
    rw [LAY_st L (15 + 22 * j) i (by omega) (by omega) hi]
    have hM : M0 (15 + 22 * j + i) = stM i := by
      unfold M0
      rw [if_neg (by omega), if_neg (by omega), show (15 + 22 * j + i - 15) % 22 = i by omega]
    rw [hM, ← stO_at (ADf b t1 t2 f) cA (15 + 22 * j) hi]
    rcases (show j = 0 ∨ j = 1 ∨ j = 2 ∨ j = 3 ∨ j = 4 ∨ j = 5 ∨ j = 6 ∨ j = 7 by omega) with rfl | rfl | rfl | rfl | rfl | rfl | rfl | rfl
    · exact WA_s0 b t1 t2 f cA hi
    · exact WA_s1 b t1 t2 f cA hi
    · exact WA_s2 b t1 t2 f cA hi
    · exact WA_s3 b t1 t2 f cA hi
    · exact WA_s4 b t1 t2 f cA hi
    · exact WA_s5 b t1 t2 f cA hi
    · exact WA_s6 b t1 t2 f cA hi
    · exact WA_s7 b t1 t2 f cA hi
theorem WA_P {D : va_G} {f : Nat → Nat} {cA : Nat → ClassId} {H : Heap} (b t1 t2 L : Nat) (hP : va_P D clsL (WA f cA) H) : va_P D clsL (wld (ADf b t1 t2 f) cA L M0) H := by
  intro k q hk
  obtain ⟨h, rfl⟩ := wld_get hk
  exact hP _ _ (WA_c b t1 t2 f cA L (wce_ok h))
