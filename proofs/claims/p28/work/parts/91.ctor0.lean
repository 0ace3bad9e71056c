/-! THE CONSTRUCTORS: what a constructor of the machine is given and leaves, by the kit's own rows -/
/-- the constructors that a nest mate calls -/
def NLt : List (String × Nat × MethodName × String) := [(RX6, 9, yX4_init, RX6), (RX4, 23, yX0_init, RX6), (RX4, 30, yX5_init, RX6), (RX6, 21, yX1_init, RX6), (RX1, 11, yX4_init, RX6), (RX6, 36, yX2_init, RX6)]
def KA (D : va_G) (cA : Nat → ClassId) (U : State) : Prop := va_K D clsL (tysL cA) U ∧ va_AO RX4 U ∧ va_AO RX0 U ∧ va_AOA .int U ∧ ∀ q ∈ NLt, va_Nw (.methodLinkNest q.1 q.2.1 q.2.2.1 q.2.2.2) U
theorem KA.same {D : va_G} {cA : Nat → ClassId} {u U : State} (h : u.vm = U.vm) (k : KA D cA u) : KA D cA U := by
  have hvm : u.vm.Alike U.vm := by rw [h]; exact Vm.Alike.refl _
  exact ⟨va_K.moved hvm k.1, va_AO.moved hvm k.2.1, va_AO.moved hvm k.2.2.1, va_AOA.moved hvm k.2.2.2.1, fun q hq => va_Nw.same rfl h (k.2.2.2.2 q hq)⟩
theorem KA.warm {D : va_G} {cA : Nat → ClassId} {u U : State} (hW : u.WarmedH U.vm) (k : KA D cA u) : KA D cA U :=
  ⟨va_K.moved hW.alike k.1, va_AO.moved hW.alike k.2.1, va_AO.moved hW.alike k.2.2.1, va_AOA.moved hW.alike k.2.2.2.1, fun q hq => va_Nw.warmM hW (k.2.2.2.2 q hq)⟩
/-- a constructor on its way: the machine, its class, its code, the tables -/
def CX (p : Program) (s : State) (m : MethodId) (args : Array Value) (meth : Method) (c : Code) (own : String) (cc : ByteArray) (nL : Nat) (R : Room) (D : va_G) (cA : Nat → ClassId) (A : Nat → Prop) (H0 : Heap) : Prop :=
  p.tables.exec = Jvm.exec ∧ c.code = cc ∧ c.maxLocals = nL ∧ s.vm.findClass own = some m.cls ∧ (∀ w ∈ GT, w.before args s = true) ∧ KA D cA s ∧ (∀ q, H0.size ≤ q → A q) ∧ 1 ≤ R.frames ∧ 60 ≤ R.locals
/-- the world of a constructor -/
def WB (D : va_G) (A : Nat → Prop) (H0 : Heap) (ws : va_W) (H : Heap) (locs : List Loc) : Prop := va_P D clsL ws H ∧ va_D A ws ∧ va_S A H0 H locs
theorem va_D1 {x : Nat × va_E} : va_D (fun _ => True) [x] := ⟨fun i j p q hi hj _ => by
  have h1 : i < 1 := (List.getElem?_eq_some_iff.mp hi).1
  have h2 : j < 1 := (List.getElem?_eq_some_iff.mp hj).1
  omega, fun _ _ _ => trivial⟩
/-- what a callee leaves stands beside the rest, in the place of the object that it was given -/
theorem joinE {D : va_G} {A0 : Nat → Prop} {W w1 : va_W} {q : Nat} {e : va_E} {H H1 : Heap} (hP : va_P D clsL (W ++ [(q, e)]) H) (hD : va_D A0 (W ++ [(q, e)])) (hk : ∀ a : Nat, a < H.size → ¬ va_A [(q, e)] H.size a → H1[a]? = H[a]?) (hF : ∀ a, va_A [(q, e)] H.size a → A0 a)
    (hP1 : va_P D clsL w1 H1) (hD1 : va_D (va_A [(q, e)] H.size) w1) : va_P D clsL (W ++ w1) H1 ∧ va_D A0 (W ++ w1) := by
  have hl : ∀ (k : Nat) (x : Nat × va_E), W[k]? = some x → (W ++ [(q, e)])[k]? = some x := fun k x hx => by
    rw [List.getElem?_append_left (List.getElem?_eq_some_iff.mp hx).1]
    exact hx
  have hq : (W ++ [(q, e)])[W.length]? = some (q, e) := by
    rw [List.getElem?_append_right (Nat.le_refl _), Nat.sub_self]
    rfl
  have hne : ∀ (k : Nat) (x : Nat × va_E), W[k]? = some x → x.1 < H.size ∧ ¬ va_A [(q, e)] H.size x.1 := fun k x hx => by
    have lt := (hP k x (hl k x hx)).lt
    refine ⟨lt, fun z => ?_⟩
    rcases z with ⟨k2, e2, z⟩ | z
    · have h0 : k2 < 1 := (List.getElem?_eq_some_iff.mp z).1
      rw [show k2 = 0 by omega] at z
      have z : some (q, e) = some (x.1, e2) := z
      have zq : q = x.1 := congrArg Prod.fst (Option.some.inj z)
      have := hD.1 k W.length x (q, e) (hl k x hx) hq zq.symm
      have := (List.getElem?_eq_some_iff.mp hx).1
      omega
    · omega
  have hPW : va_P D clsL W H1 := fun k x hx => (hP k x (hl k x hx)).kept (hk x.1 (hne k x hx).1 (hne k x hx).2)
  have hDW : va_D A0 W := ⟨fun i j x y hi hj hxy => hD.1 i j x y (hl i x hi) (hl j y hj) hxy, fun k x hx => hD.2 k x (hl k x hx)⟩
  refine ⟨hPW.app hP1, hDW.app (hD1.weaken (fun k x _ z => hF x.1 z)) (fun i j x y hi hj hxy => ?_)⟩
  have := hD1.2 j y hj
  rw [← hxy] at this
  exact (hne i x hi).2 this
section
variable {p : Program} {l : Launch} {e : Env} {R : Room} {s : State} {m : MethodId} {args : Array Value} {below : List Frame} {meth : Method} {c : Code} {H : Heap} {locs : List Loc} {cells slots : Nat} {Q : State → Prop}
variable {cc : ByteArray} {pc : Nat} {ls : Array Slot} {rest : List Value} {D : va_G} {A : Nat → Prop} {ws : va_W} {H0 : Heap} {own : String} {nL : Nat} {cA : Nat → ClassId}
theorem c_newa (F : CX p s m args meth c own cc nL R D cA A H0) {atype : ArrayType} {ty : FieldType} (t : Nat) (hA : Cond.arrayClass ty ∈ GT) (hty : newarray.typeOf atype = ty) (ht : (tysL cA)[t]? = some (cA t, ty)) (hu : ∀ k, va_RA s k ty → va_RA s (cA t) ty → k = cA t) (hdv : ∀ k N' : Nat, vp_cell k (N', .inl (fun _ => 0)) = arrV k N' (fun _ => defaultValue ty))
    (hW : WB D A H0 ws H locs) {n : Int32} {N' : Nat} (hn : ¬ n < 0) (hN : n.toNatClampNeg = N') (hbytes : N' * componentBytes ty ≤ 536870912) (hcells : cells + 1 ≤ R.cells) (hslots : slots + N' ≤ R.slots) (hdg : decode cc pc = .ok (.newarray atype, 2))
    (kk : ∀ (q : Nat) (H1 : Heap), WB D A H0 (ws ++ [(q, .inl (cA t, N', .inl (fun _ => 0)))]) H1 locs → W p l e R s m args below meth c H1 locs (cells + 1) (slots + N') Q (F0 m (pc + 2) ls (.ref q :: rest))) : W p l e R s m args below meth c H locs cells slots Q (F0 m pc ls (.int n :: rest)) := by
  obtain ⟨hx, hb, hml, hown, hts, hK, hA0, hR1, hR2⟩ := F
  obtain ⟨hP, hD, hS⟩ := hW
  subst hty
  refine va_newa (a0 := (N', .inl (fun _ => 0))) hx hb (hts _ hA) rfl (hK.1.sub (tys' := []) [] rfl) hP hD hS hA0 (fun k => hdv k N') hn hN hbytes hcells hslots hdg (fun q k H1 hK1 hP1 hD1 hS1 => ?_)
  have e := hu k (hK1.2 0 _ rfl).2 (hK.1.2 t _ ht).2
  subst e
  exact kk q H1 ⟨hP1, hD1, hS1⟩
theorem c_newq (F : CX p s m args meth c own cc nL R D cA A H0) {C : String} {index : Nat} (t : Nat) (hcl : Cond.classLink own index C ∈ GT) (hO : va_AO C s) (ht : (tysL cA)[t]? = some (cA t, .object C))
    (hW : WB D A H0 ws H locs) {n : Int32} {N' : Nat} (hn : ¬ n < 0) (hN : n.toNatClampNeg = N') (hbytes : N' * 4 ≤ 536870912) (hcells : cells + 1 ≤ R.cells) (hslots : slots + N' ≤ R.slots) (hdg : decode cc pc = .ok (.anewarray index, 3))
    (kk : ∀ (q : Nat) (H1 : Heap), WB D A H0 (ws ++ [(q, .inl (cA t, N', .inr (.inr (.inr (.inr (fun _ => none))))))]) H1 locs → W p l e R s m args below meth c H1 locs (cells + 1) (slots + N') Q (F0 m (pc + 3) ls (.ref q :: rest))) : W p l e R s m args below meth c H locs cells slots Q (F0 m pc ls (.int n :: rest)) := by
  obtain ⟨hx, hb, hml, hown, hts, hK, hA0, hR1, hR2⟩ := F
  obtain ⟨hP, hD, hS⟩ := hW
  refine va_newq hx hb hown (hts _ hcl) hO (hK.1.sub (tys' := []) [] rfl) hP hD hS hA0 hn hN hbytes hcells hslots hdg (fun q k H1 hK1 hP1 hD1 hS1 => ?_)
  obtain ⟨kA, comp, -, -, -, z1⟩ := (hK1.2 0 _ rfl).2
  obtain ⟨kA2, comp2, -, -, -, z2⟩ := (hK.1.2 t _ ht).2
  have e : k = cA t := Option.some.inj (z1.symm.trans z2)
  subst e
  exact kk q H1 ⟨hP1, hD1, hS1⟩
theorem c_new (F : CX p s m args meth c own cc nL R D cA A H0) (ci : Nat) (hci : ci < 7) {index : Nat} {fs : List Value} (hcl : Cond.classLink own index (RC ci) ∈ GT) (hinst : Cond.instantiable (RC ci) (nfC ci) ∈ GT) (hini : Cond.initialized (RC ci) ∈ GT) (hfs : ∀ j, j < nfC ci → defaultValue (tyC ci j) = vp_V fs j)
    (hW : WB D A H0 ws H locs) (hcells : cells + 1 ≤ R.cells) (hslots : slots + nfC ci ≤ R.slots) (hdg : decode cc pc = .ok (.new index, 3))
    (kk : ∀ (q : Nat) (H1 : Heap), WB D A H0 (ws ++ [(q, .inr (ci, fs))]) H1 locs → W p l e R s m args below meth c H1 locs (cells + 1) (slots + nfC ci) Q (F0 m (pc + 3) ls (.ref q :: rest))) : W p l e R s m args below meth c H locs cells slots Q (F0 m pc ls rest) := by
  obtain ⟨hx, hb, hml, hown, hts, hK, hA0, hR1, hR2⟩ := F
  obtain ⟨hP, hD, hS⟩ := hW
  exact va_new hx hb hts (clsW hci) (tyC ci) (tyC_ok hci) hown (hts _ hcl) (hts _ hinst) (hts _ hini) hK.1 hP hD hS hA0 (clsL_at hci) hfs hcells hslots hdg (fun q H1 hP1 hD1 hS1 => kk q H1 ⟨hP1, hD1, hS1⟩)
theorem c_putF (F : CX p s m args meth c own cc nL R D cA A H0) (hin : meth.name = "<init>") (ci : Nat) (hci : ci < 7) (k : Nat) (hk : k < nfC ci) {index : Nat} {ty : FieldType} (hlink : Cond.fieldLink own index (TC ci k).1 (TC ci k).2.1 (TC ci k).2.2.1 ∈ GT) (hfin : (TC ci k).2.2.2 = true) (hdecl : (TC ci k).1 = own) (hty : tyC ci k = ty)
    (hW : WB D A H0 ws H locs) (q0 : Nat) {a : Nat} {fs : List Value} {v : Value} (he : ws[q0]? = some (a, .inr (ci, fs))) (hn : narrow ty v = v) (hfit : fits ty v = true) (hl : k < fs.length) (hdg : decode cc pc = .ok (.putfield index, 3))
    (kk : ∀ (H1 : Heap) (locs1 : List Loc), WB D A H0 (ws.set q0 (a, .inr (ci, fs.set k v))) H1 locs1 → W p l e R s m args below meth c H1 locs1 cells slots Q (F0 m (pc + 3) ls rest)) : W p l e R s m args below meth c H locs cells slots Q (F0 m pc ls (v :: .ref a :: rest)) := by
  obtain ⟨hx, hb, hml, hown, hts, hK, hA0, hR1, hR2⟩ := F
  obtain ⟨hP, hD, hS⟩ := hW
  exact va_putF hx hb hts (clsW hci) (tyC ci) (tyC_ok hci) (nmC_ok hci) hown hK.1 hP hD hS q0 he (clsL_at hci) k hk (hts _ hlink) (fun _ z => z) hfin hin hdecl ((tyC_ok hci k hk).trans (congrArg some hty)) hn hfit hl hdg (fun H1 locs1 hP1 hD1 hS1 => kk H1 locs1 ⟨hP1, hD1, hS1⟩)
theorem c_put (F : CX p s m args meth c own cc nL R D cA A H0) (ci : Nat) (hci : ci < 7) (k : Nat) (hk : k < nfC ci) {index : Nat} {ty : FieldType} (hlink : Cond.fieldLink own index (TC ci k).1 (TC ci k).2.1 (TC ci k).2.2.1 ∈ GT) (hfin : (TC ci k).2.2.2 = false) (hty : tyC ci k = ty)
    (hW : WB D A H0 ws H locs) (q0 : Nat) {a : Nat} {fs : List Value} {v : Value} (he : ws[q0]? = some (a, .inr (ci, fs))) (hn : narrow ty v = v) (hfit : fits ty v = true) (hl : k < fs.length) (hdg : decode cc pc = .ok (.putfield index, 3))
    (kk : ∀ (H1 : Heap) (locs1 : List Loc), WB D A H0 (ws.set q0 (a, .inr (ci, fs.set k v))) H1 locs1 → W p l e R s m args below meth c H1 locs1 cells slots Q (F0 m (pc + 3) ls rest)) : W p l e R s m args below meth c H locs cells slots Q (F0 m pc ls (v :: .ref a :: rest)) := by
  obtain ⟨hx, hb, hml, hown, hts, hK, hA0, hR1, hR2⟩ := F
  obtain ⟨hP, hD, hS⟩ := hW
  exact va_put hx hb hts (clsW hci) (tyC ci) (tyC_ok hci) (nmC_ok hci) hown hK.1 hP hD hS q0 he (clsL_at hci) k hk (hts _ hlink) (fun _ z => z) hfin ((tyC_ok hci k hk).trans (congrArg some hty)) hn hfit hl hdg (fun H1 locs1 hP1 hD1 hS1 => kk H1 locs1 ⟨hP1, hD1, hS1⟩)
theorem c_get (F : CX p s m args meth c own cc nL R D cA A H0) (ci : Nat) (hci : ci < 7) (k : Nat) (hk : k < nfC ci) {index : Nat} (hlink : Cond.fieldLink own index (TC ci k).1 (TC ci k).2.1 (TC ci k).2.2.1 ∈ GT)
    (hW : WB D A H0 ws H locs) (q0 : Nat) {a : Nat} {fs : List Value} {v : Value} (he : ws[q0]? = some (a, .inr (ci, fs))) (hv : fs[k]? = some v) (hdg : decode cc pc = .ok (.getfield index, 3))
    (kk : W p l e R s m args below meth c H locs cells slots Q (F0 m (pc + 3) ls (v :: rest))) : W p l e R s m args below meth c H locs cells slots Q (F0 m pc ls (.ref a :: rest)) := by
  obtain ⟨hx, hb, hml, hown, hts, hK, hA0, hR1, hR2⟩ := F
  exact va_get hx hb hts (clsW hci) hown hK.1 hW.1 q0 he (clsL_at hci) k hk (hts _ hlink) (fun _ z => z) hv hdg kk
theorem c_iast (F : CX p s m args meth c own cc nL R D cA A H0) (hW : WB D A H0 ws H locs) (q0 : Nat) {a n : Nat} {f : Nat → Int32} (ha : ws[q0]? = some (a, .inl (cA 0, n, .inl f))) {i x : Int32} (hin : vp_in i n) (hdg : decode cc pc = .ok (.iastore, 1))
    (kk : ∀ (H1 : Heap) (locs1 : List Loc), WB D A H0 (ws.set q0 (a, .inl (cA 0, n, .inl (upd f i.toNatClampNeg x)))) H1 locs1 → W p l e R s m args below meth c H1 locs1 cells slots Q (F0 m (pc + 1) ls rest)) : W p l e R s m args below meth c H locs cells slots Q (F0 m pc ls (.int x :: .int i :: .ref a :: rest)) := by
  obtain ⟨hx, hb, hml, hown, hts, hK, hA0, hR1, hR2⟩ := F
  obtain ⟨hP, hD, hS⟩ := hW
  exact va_iast hx hb hK.1 hP hD hS q0 0 ha rfl hin hdg (fun H1 locs1 hP1 hD1 hS1 => kk H1 locs1 ⟨hP1, hD1, hS1⟩)
theorem c_aast (F : CX p s m args meth c own cc nL R D cA A H0) (hW : WB D A H0 ws H locs) (q0 t0 qk ci : Nat) (hci : ci < 7) {a n v : Nat} {vs : List Value} {f : Nat → Option Nat} (ha : ws[q0]? = some (a, .inl (cA t0, n, .inr (.inr (.inr (.inr f)))))) (ht : (tysL cA)[t0]? = some (cA t0, .object (RC ci))) (hv : ws[qk]? = some (v, .inr (ci, vs))) {i : Int32} (hin : vp_in i n) (hdg : decode cc pc = .ok (.aastore, 1))
    (kk : ∀ (H1 : Heap) (locs1 : List Loc), WB D A H0 (ws.set q0 (a, .inl (cA t0, n, .inr (.inr (.inr (.inr (va_up f i.toNatClampNeg (some v)))))))) H1 locs1 → W p l e R s m args below meth c H1 locs1 cells slots Q (F0 m (pc + 1) ls rest)) : W p l e R s m args below meth c H locs cells slots Q (F0 m pc ls (.ref v :: .int i :: .ref a :: rest)) := by
  obtain ⟨hx, hb, hml, hown, hts, hK, hA0, hR1, hR2⟩ := F
  obtain ⟨hP, hD, hS⟩ := hW
  exact va_astq (r := (RC ci, TC ci, nfC ci)) hx hb hK.1 hP hD hS q0 t0 qk ci ha ht hv (clsL_at hci) hin hdg (fun H1 locs1 hP1 hD1 hS1 => kk H1 locs1 ⟨hP1, hD1, hS1⟩)
theorem c_objI (F : CX p s m args meth c own cc nL R D cA A H0) {idx a : Nat} (h1 : Cond.methodLink own idx Lib.objectInit ∈ GT) (h2 : Cond.instanceMethod Lib.objectInit ∈ GT) (h3 : Cond.code Lib.objectInit ⟨#[0xb1]⟩ 1 none ∈ GT) (hl : ls.size = nL) (hdg : decode cc pc = .ok (.invokespecial idx, 3))
    (kk : W p l e R s m args below meth c H locs cells slots Q (F0 m (pc + 3) ls [])) : W p l e R s m args below meth c H locs cells slots Q (F0 m pc ls [.ref a]) := by
  obtain ⟨hx, hb, hml, hown, hts, hK, hA0, hR1, hR2⟩ := F
  exact W.objInit hx hb hown (hts _ h1) (hts _ h2) (hts _ h3) rfl (hl.trans hml.symm) rfl hdg hR1 (by show 2 * 0 + 0 + 12 ≤ R.locals; omega) kk
/-- a constructor's contract: it is given its object bare, and leaves the world wf -/
abbrev IOK (l : Launch) (D : va_G) (cA : Nat → ClassId) (y : MethodName) (b : ByteArray) (mL : Nat) (rm : Room) (ci : Nat) (fs : List Value) (wf : (Nat → Nat) → va_W) : Prop :=
  ∀ h0 sz : Nat, Met l y (.code y b mL none :: GT) rm (va_Pc [.ref h0] (fun U => U.heap.size = sz ∧ va_P D clsL [(h0, .inr (ci, fs))] U.heap ∧ KA D cA U))
    (va_Qv (S := Nat → Nat) (fun ad => ad 0 = h0) (fun ad t => va_P D clsL (wf ad) t.heap ∧ va_D (va_A [(h0, .inr (ci, fs))] sz) (wf ad)) (va_A [(h0, .inr (ci, fs))] sz)) rm.cells rm.slots (va_A [(h0, .inr (ci, fs))] sz)
theorem c_init (F : CX p s m args meth c own cc nL R D cA A H0) {y : MethodName} {b : ByteArray} {mL ci index q : Nat} {rm : Room} {fs : List Value} {wf : (Nat → Nat) → va_W} (hM : IOK l D cA y b mL rm ci fs wf) (h1 : Cond.methodLink own index y ∈ GT) (h2 : Cond.initialized y.cls ∈ GT) (h3 : Cond.code y b mL none ∈ GT) (h4 : Cond.instanceMethod y ∈ GT) (h5 : y.name = "<init>")
    (hd : y.cls ≠ "java/lang/invoke/MethodHandle" ∧ y.cls ≠ "java/lang/invoke/VarHandle" ∧ (parseMethodDescriptor y.desc).map (fun d => d.parameters.length) = some 0) (hR : rm.frames + 1 ≤ R.frames ∧ 8 + (mL + 11) + rm.locals ≤ R.locals) {W0 : va_W} (hW : WB D A H0 (W0 ++ [(q, .inr (ci, fs))]) H locs) (hl : ls.size = nL) (hst : (rest.map fun v => v.category).sum ≤ 8)
    (hcells : cells + rm.cells ≤ R.cells) (hslots : slots + rm.slots ≤ R.slots) (hdg : decode cc pc = .ok (.invokespecial index, 3))
    (kk : ∀ (ad : Nat → Nat) (H1 : Heap) (locs1 : List Loc), ad 0 = q → WB D A H0 (W0 ++ wf ad) H1 locs1 → W p l e R s m args below meth c H1 locs1 (cells + rm.cells) (slots + rm.slots) Q (F0 m (pc + 3) ls rest)) : W p l e R s m args below meth c H locs cells slots Q (F0 m pc ls (.ref q :: rest)) := by
  obtain ⟨hx, hb, hml, hown, hts, hK, hA0, hR1, hR2⟩ := F
  obtain ⟨hP, hD, hS⟩ := hW
  have hG : GoodIn GT (.code y b mL none :: GT) := fun w hw => by
    rcases List.mem_cons.mp hw with rfl | hw
    · exact goodGT h3
    · exact goodGT hw
  have hq : (W0 ++ [(q, (.inr (ci, fs) : va_E))])[W0.length]? = some (q, .inr (ci, fs)) := by
    rw [List.getElem?_append_right (Nat.le_refl _), Nat.sub_self]
    rfl
  have hPc : va_P D clsL [(q, .inr (ci, fs))] H := fun k x hx => by
    have h0 : k < 1 := (List.getElem?_eq_some_iff.mp hx).1
    rw [show k = 0 by omega] at hx
    cases hx
    exact hP _ _ hq
  have hF : ∀ a, va_A [(q, .inr (ci, fs))] H.size a → A a := fun a z => by
    rcases z with ⟨k2, e2, z⟩ | z
    · have h0 : k2 < 1 := (List.getElem?_eq_some_iff.mp z).1
      rw [show k2 = 0 by omega] at z
      have z : some (q, (.inr (ci, fs) : va_E)) = some (a, e2) := z
      have zq : q = a := congrArg Prod.fst (Option.some.inj z)
      rw [← zq]
      exact hD.2 _ _ hq
    · exact hA0 a (Nat.le_trans hS.1 z)
  refine va_callv (va_runI (As := []) (rest := rest) ⟨hx, hb, hml, hown, hts⟩ (hM q H.size) (cwI 0 hts hG rfl rfl rfl (hts _ h2) (hts _ h1) (hts _ h4) h5 hd hR)
    ⟨fun a U g mk z => ⟨z.1, z.2.1, z.2.2.1, KA.same (u := U) (U := U.calling g mk a) rfl z.2.2.2⟩, fun U hU hW => ⟨rfl, by rw [hU], by rw [hU]; exact hPc, KA.warm hW hK⟩⟩ rfl rfl hl rfl (lv_room hst) hdg ⟨hcells, hslots⟩) hS (fun a _ z => hF a z) hF (fun ad t H1 locs1 ht hvm hw hB hz hk hS1 => ?_)
  obtain ⟨hP1, hD1⟩ := hB
  rw [ht] at hP1
  exact kk ad H1 locs1 hw ⟨(joinE hP hD hk hF hP1 hD1).1, (joinE hP hD hk hF hP1 hD1).2, hS1⟩
theorem c_initN (F : CX p s m args meth c own cc nL R D cA A H0) {y : MethodName} {host : String} {b : ByteArray} {mL ci index q : Nat} {rm : Room} {fs : List Value} {wf : (Nat → Nat) → va_W} (hM : IOK l D cA y b mL rm ci fs wf) (h1 : (own, index, y, host) ∈ NLt) (h2 : Cond.initialized y.cls ∈ GT) (h3 : Cond.code y b mL none ∈ GT) (h4 : Cond.instanceMethod y ∈ GT) (h5 : y.name = "<init>")
    (hd : y.cls ≠ "java/lang/invoke/MethodHandle" ∧ y.cls ≠ "java/lang/invoke/VarHandle" ∧ (parseMethodDescriptor y.desc).map (fun d => d.parameters.length) = some 0) (hR : rm.frames + 1 ≤ R.frames ∧ 8 + (mL + 11) + rm.locals ≤ R.locals) {W0 : va_W} (hW : WB D A H0 (W0 ++ [(q, .inr (ci, fs))]) H locs) (hl : ls.size = nL) (hst : (rest.map fun v => v.category).sum ≤ 8)
    (hcells : cells + rm.cells ≤ R.cells) (hslots : slots + rm.slots ≤ R.slots) (hdg : decode cc pc = .ok (.invokespecial index, 3))
    (kk : ∀ (ad : Nat → Nat) (H1 : Heap) (locs1 : List Loc), ad 0 = q → WB D A H0 (W0 ++ wf ad) H1 locs1 → W p l e R s m args below meth c H1 locs1 (cells + rm.cells) (slots + rm.slots) Q (F0 m (pc + 3) ls rest)) : W p l e R s m args below meth c H locs cells slots Q (F0 m pc ls (.ref q :: rest)) := by
  obtain ⟨hx, hb, hml, hown, hts, hK, hA0, hR1, hR2⟩ := F
  obtain ⟨hP, hD, hS⟩ := hW
  have hG : GoodIn GT (.code y b mL none :: GT) := fun w hw => by
    rcases List.mem_cons.mp hw with rfl | hw
    · exact goodGT h3
    · exact goodGT hw
  have hq : (W0 ++ [(q, (.inr (ci, fs) : va_E))])[W0.length]? = some (q, .inr (ci, fs)) := by
    rw [List.getElem?_append_right (Nat.le_refl _), Nat.sub_self]
    rfl
  have hPc : va_P D clsL [(q, .inr (ci, fs))] H := fun k x hx => by
    have h0 : k < 1 := (List.getElem?_eq_some_iff.mp hx).1
    rw [show k = 0 by omega] at hx
    cases hx
    exact hP _ _ hq
  have hF : ∀ a, va_A [(q, .inr (ci, fs))] H.size a → A a := fun a z => by
    rcases z with ⟨k2, e2, z⟩ | z
    · have h0 : k2 < 1 := (List.getElem?_eq_some_iff.mp z).1
      rw [show k2 = 0 by omega] at z
      have z : some (q, (.inr (ci, fs) : va_E)) = some (a, e2) := z
      have zq : q = a := congrArg Prod.fst (Option.some.inj z)
      rw [← zq]
      exact hD.2 _ _ hq
    · exact hA0 a (Nat.le_trans hS.1 z)
  refine va_callv (va_runIN (As := []) (rest := rest) ⟨hx, hb, hml, hown, hts⟩ (hM q H.size) ⟨va_cnB 0 hts hG rfl rfl rfl (hK.2.2.2.2 _ h1) (hts _ h2) hd hR, h5, hts _ h4⟩
    ⟨fun a U g mk z => ⟨z.1, z.2.1, z.2.2.1, KA.same (u := U) (U := U.calling g mk a) rfl z.2.2.2⟩, fun U hU hW => ⟨rfl, by rw [hU], by rw [hU]; exact hPc, KA.warm hW hK⟩⟩ rfl rfl hl rfl (lv_room hst) hdg ⟨hcells, hslots⟩) hS (fun a _ z => hF a z) hF (fun ad t H1 locs1 ht hvm hw hB hz hk hS1 => ?_)
  obtain ⟨hP1, hD1⟩ := hB
  rw [ht] at hP1
  exact kk ad H1 locs1 hw ⟨(joinE hP hD hk hF hP1 hD1).1, (joinE hP hD hk hF hP1 hD1).2, hS1⟩
end
set_option maxHeartbeats 1000000 in
theorem IOK.of {l : Launch} {D : va_G} {cA : Nat → ClassId} {y : MethodName} {b : ByteArray} {mL : Nat} {rm : Room} {ci : Nat} {fs : List Value} {wf : (Nat → Nat) → va_W} (hy : plainName y.cls = true) (hi : y.name = "<init>") (hmL : 1 ≤ mL) (hfr : 1 ≤ rm.frames) (hlo : 60 ≤ rm.locals)
    (body : ∀ {p : Program} {e : Env} {s : State} {m : MethodId} {args : Array Value} {below : List Frame} {meth : Method} {c : Code} {A : Nat → Prop} {h0 : Nat} {Q : State → Prop} (ls : Array Slot), CX p s m args meth c y.cls b mL rm D cA A s.heap → meth.name = "<init>" → lv_has ls mL [(0, .ref h0)] → WB D A s.heap [(h0, .inr (ci, fs))] s.heap [] →
      (∀ (pc : Nat) (ls : Array Slot) (H : Heap) (locs : List Loc) (ad : Nat → Nat), decode b pc = .ok (.return_, 1) → ad 0 = h0 → WB D A s.heap (wf ad) H locs → W p l e rm s m args below meth c H locs rm.cells rm.slots Q (F0 m pc ls [])) →
      W p l e rm s m args below meth c s.heap [] 0 0 Q (F0 m 0 ls [])) : IOK l D cA y b mL rm ci fs wf := by
  intro h0 sz
  refine Met.ofW (cc := b) (maxL := mL) (ret := none) hy rfl ?_
  intro p e s m args below meth c s₁ B hml hv
  obtain ⟨rfl, hsz, hP, hK⟩ := hv
  have hts0 := atoms_spec (ws := .code y b mL none :: GT) B.pre
  have hts : ∀ w ∈ GT, w.before ([Value.ref h0] : List Value).toArray s = true := fun w hw => hts0 w (List.mem_cons_of_mem _ hw)
  have hown : s.vm.findClass y.cls = some m.cls := findClass_of_methodNamed B.named
  have hlocks := B.notSynchronized
  have hx := B.exec
  have hb := B.bytes
  have hr := B.returns
  have hin : meth.name = "<init>" := (name_of_methodNamed B.named B.method).1.trans hi
  subst hsz
  have hD := (va_D1 (x := (h0, .inr (ci, fs)))).self (sz := s.heap.size)
  have hA : ∀ q : Nat, s.heap.size ≤ q → va_A [(h0, .inr (ci, fs))] s.heap.size q := fun q h => Or.inr h
  have hl := lv_entry ([.ref h0]) (n := mL) hmL
  rw [lg_entry_eq]
  refine body _ ⟨hx, hb, hml, hown, hts, hK, hA, hfr, hlo⟩ hin hl ⟨hP, hD, va_S.rf⟩ ?_
  intro pc ls H locs ad hdg had hW
  exact W.vret hx hb hr (fun t ht hW2 => ⟨⟨ad, rfl, had, by rw [ht]; exact hW.1, hW.2.1⟩, hW.2.2.F ht⟩) hW.2.2.2.2 hdg
