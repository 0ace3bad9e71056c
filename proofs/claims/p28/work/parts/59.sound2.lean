/-! LEVEL 2 IS SOUND -/
def Fx2 (X : Sx2) (L : Nat) (scr : Int → Int) (p : Program) (s : State) (m : MethodId) (args : Array Value) (c : Code) (own : String) (cc : ByteArray) (nL : Nat) (R : Room) (c0 s0 B : Nat) (ea : Bool) (D : va_G) (cA : Nat → ClassId) (ad : Nat → Nat) (A : Nat → Prop) : Prop :=
  p.tables.exec = Jvm.exec ∧ c.code = cc ∧ c.maxLocals = nL ∧ s.vm.findClass own = some m.cls ∧ (∀ w ∈ GT, w.before args s = true) ∧ va_K D clsL (tysL cA) s ∧ adOK ad A ∧ Ext ad L (xcF scr) A s s.heap ∧ L < 2147483648 ∧
  (∀ e ∈ X.1, decode cc e.1 = .ok e.2) ∧ (∀ e ∈ X.2.1, Cond.constantLong own e.1 (Int64.ofInt e.2) ∈ GT) ∧ (∀ e ∈ X.2.2.1, Cond.constant own e.1 (Int32.ofInt e.2) ∈ GT) ∧ (∀ e ∈ X.2.2.2.1, Cl2 own R e) ∧ (∀ e ∈ X.2.2.2.2.1, Cw2 own R e) ∧
  (∀ b, b ≤ B → c0 + 3 * b ≤ R.cells ∧ s0 + 10 * b ≤ R.slots) ∧ (∀ q : Nat, s.heap.size ≤ q → A q) ∧ (∀ M, va_D A (wl2 ea ad cA L M)) ∧ arD ea ad
def JW2 (p : Program) (l : Launch) (e : Env) (R : Room) (s : State) (m : MethodId) (args : Array Value) (below : List Frame) (meth : Method) (c : Code) (nL c0 s0 : Nat) (Q : State → Prop) (D : va_G) (cA : Nat → ClassId) (ad : Nat → Nat) (A : Nat → Prop) (L : Nat) (ea : Bool) (b pc : Nat) (lp st : List PV) (M : Mem) : Prop :=
  ∀ (H : Heap) (locs : List Loc) (ls : Array Slot), va_P D clsL (wl2 ea ad cA L M) H → va_S A s.heap H locs → LR ad nL lp ls → W p l e R s m args below meth c H locs (c0 + 3 * b) (s0 + 10 * b) Q (F0 m pc ls (st.map (vp ad)))
set_option maxHeartbeats 1000000 in
theorem z_iconst {X : Sx2} {L : Nat} {scr : Int → Int} {p : Program} {l : Launch} {e : Env} {R : Room} {s : State} {m : MethodId} {args : Array Value} {below : List Frame} {meth : Method} {c : Code} {own : String} {cc : ByteArray} {nL c0 s0 B : Nat} {ea : Bool} {Q : State → Prop} {D : va_G} {cA : Nat → ClassId} {ad : Nat → Nat} {A : Nat → Prop} (F : Fx2 X L scr p s m args c own cc nL R c0 s0 B ea D cA ad A) : q_iconst X L (xcF scr) ea B (JW2 p l e R s m args below meth c nL c0 s0 Q D cA ad A L ea) := by
  obtain ⟨hx, hb, hml, hown, hts, hK, had, hE, hL, htab, hkL, hkI, hcl, hcw2, hbR, hA0, hD2, hD3⟩ := F
  intro b pc q lp st M v hb0 h1 h2 k
  have hb0 := Nat.le_of_ble_eq_true hb0
  have hdg := htab _ (lk_mem h1)
  subst h2
  intro H locs ls hP hS hl
  exact lv_iconst hx hb hdg rfl (k H locs ls hP hS hl)
set_option maxHeartbeats 1000000 in
theorem z_bipush {X : Sx2} {L : Nat} {scr : Int → Int} {p : Program} {l : Launch} {e : Env} {R : Room} {s : State} {m : MethodId} {args : Array Value} {below : List Frame} {meth : Method} {c : Code} {own : String} {cc : ByteArray} {nL c0 s0 B : Nat} {ea : Bool} {Q : State → Prop} {D : va_G} {cA : Nat → ClassId} {ad : Nat → Nat} {A : Nat → Prop} (F : Fx2 X L scr p s m args c own cc nL R c0 s0 B ea D cA ad A) : q_bipush X L (xcF scr) ea B (JW2 p l e R s m args below meth c nL c0 s0 Q D cA ad A L ea) := by
  obtain ⟨hx, hb, hml, hown, hts, hK, had, hE, hL, htab, hkL, hkI, hcl, hcw2, hbR, hA0, hD2, hD3⟩ := F
  intro b pc q lp st M v hb0 h1 h2 h3 k
  have hb0 := Nat.le_of_ble_eq_true hb0
  have hdg := htab _ (lk_mem h1)
  subst h2
  intro H locs ls hP hS hl
  exact lv_bipush hx hb hdg (of_i8 h3) (k H locs ls hP hS hl)
set_option maxHeartbeats 1000000 in
theorem z_sipush {X : Sx2} {L : Nat} {scr : Int → Int} {p : Program} {l : Launch} {e : Env} {R : Room} {s : State} {m : MethodId} {args : Array Value} {below : List Frame} {meth : Method} {c : Code} {own : String} {cc : ByteArray} {nL c0 s0 B : Nat} {ea : Bool} {Q : State → Prop} {D : va_G} {cA : Nat → ClassId} {ad : Nat → Nat} {A : Nat → Prop} (F : Fx2 X L scr p s m args c own cc nL R c0 s0 B ea D cA ad A) : q_sipush X L (xcF scr) ea B (JW2 p l e R s m args below meth c nL c0 s0 Q D cA ad A L ea) := by
  obtain ⟨hx, hb, hml, hown, hts, hK, had, hE, hL, htab, hkL, hkI, hcl, hcw2, hbR, hA0, hD2, hD3⟩ := F
  intro b pc q lp st M v hb0 h1 h2 h3 k
  have hb0 := Nat.le_of_ble_eq_true hb0
  have hdg := htab _ (lk_mem h1)
  subst h2
  intro H locs ls hP hS hl
  exact lv_sipush hx hb hdg (of_i16 h3) (k H locs ls hP hS hl)
set_option maxHeartbeats 1000000 in
theorem z_ldc2 {X : Sx2} {L : Nat} {scr : Int → Int} {p : Program} {l : Launch} {e : Env} {R : Room} {s : State} {m : MethodId} {args : Array Value} {below : List Frame} {meth : Method} {c : Code} {own : String} {cc : ByteArray} {nL c0 s0 B : Nat} {ea : Bool} {Q : State → Prop} {D : va_G} {cA : Nat → ClassId} {ad : Nat → Nat} {A : Nat → Prop} (F : Fx2 X L scr p s m args c own cc nL R c0 s0 B ea D cA ad A) : q_ldc2 X L (xcF scr) ea B (JW2 p l e R s m args below meth c nL c0 s0 Q D cA ad A L ea) := by
  obtain ⟨hx, hb, hml, hown, hts, hK, had, hE, hL, htab, hkL, hkI, hcl, hcw2, hbR, hA0, hD2, hD3⟩ := F
  intro b pc q lp st M i v hb0 h1 h2 h3 k
  have hb0 := Nat.le_of_ble_eq_true hb0
  have hdg := htab _ (lk_mem h1)
  subst h2
  intro H locs ls hP hS hl
  exact lv_ldc2 hx hb hown (hts _ (hkL _ (lk_mem h3))) hdg (k H locs ls hP hS hl)
set_option maxHeartbeats 1000000 in
theorem z_iload_n {X : Sx2} {L : Nat} {scr : Int → Int} {p : Program} {l : Launch} {e : Env} {R : Room} {s : State} {m : MethodId} {args : Array Value} {below : List Frame} {meth : Method} {c : Code} {own : String} {cc : ByteArray} {nL c0 s0 B : Nat} {ea : Bool} {Q : State → Prop} {D : va_G} {cA : Nat → ClassId} {ad : Nat → Nat} {A : Nat → Prop} (F : Fx2 X L scr p s m args c own cc nL R c0 s0 B ea D cA ad A) : q_iload_n X L (xcF scr) ea B (JW2 p l e R s m args below meth c nL c0 s0 Q D cA ad A L ea) := by
  obtain ⟨hx, hb, hml, hown, hts, hK, had, hE, hL, htab, hkL, hkI, hcl, hcw2, hbR, hA0, hD2, hD3⟩ := F
  intro b pc q lp st M k4 i x hb0 h1 h2 h3 h4 k
  have hb0 := Nat.le_of_ble_eq_true hb0
  have hdg := htab _ (lk_mem h1)
  subst h2
  intro H locs ls hP hS hl
  exact lv_iload_n hx hb hdg h3 (hl.get h4) (k H locs ls hP hS hl)
set_option maxHeartbeats 1000000 in
theorem z_lload_n {X : Sx2} {L : Nat} {scr : Int → Int} {p : Program} {l : Launch} {e : Env} {R : Room} {s : State} {m : MethodId} {args : Array Value} {below : List Frame} {meth : Method} {c : Code} {own : String} {cc : ByteArray} {nL c0 s0 B : Nat} {ea : Bool} {Q : State → Prop} {D : va_G} {cA : Nat → ClassId} {ad : Nat → Nat} {A : Nat → Prop} (F : Fx2 X L scr p s m args c own cc nL R c0 s0 B ea D cA ad A) : q_lload_n X L (xcF scr) ea B (JW2 p l e R s m args below meth c nL c0 s0 Q D cA ad A L ea) := by
  obtain ⟨hx, hb, hml, hown, hts, hK, had, hE, hL, htab, hkL, hkI, hcl, hcw2, hbR, hA0, hD2, hD3⟩ := F
  intro b pc q lp st M k4 i x hb0 h1 h2 h3 h4 k
  have hb0 := Nat.le_of_ble_eq_true hb0
  have hdg := htab _ (lk_mem h1)
  subst h2
  intro H locs ls hP hS hl
  exact lv_lload_n hx hb hdg h3 (hl.get h4) (k H locs ls hP hS hl)
set_option maxHeartbeats 1000000 in
theorem z_iload {X : Sx2} {L : Nat} {scr : Int → Int} {p : Program} {l : Launch} {e : Env} {R : Room} {s : State} {m : MethodId} {args : Array Value} {below : List Frame} {meth : Method} {c : Code} {own : String} {cc : ByteArray} {nL c0 s0 B : Nat} {ea : Bool} {Q : State → Prop} {D : va_G} {cA : Nat → ClassId} {ad : Nat → Nat} {A : Nat → Prop} (F : Fx2 X L scr p s m args c own cc nL R c0 s0 B ea D cA ad A) : q_iload X L (xcF scr) ea B (JW2 p l e R s m args below meth c nL c0 s0 Q D cA ad A L ea) := by
  obtain ⟨hx, hb, hml, hown, hts, hK, had, hE, hL, htab, hkL, hkI, hcl, hcw2, hbR, hA0, hD2, hD3⟩ := F
  intro b pc q lp st M i x hb0 h1 h2 h3 k
  have hb0 := Nat.le_of_ble_eq_true hb0
  have hdg := htab _ (lk_mem h1)
  subst h2
  intro H locs ls hP hS hl
  exact lv_iload hx hb hdg (hl.get h3) (k H locs ls hP hS hl)
set_option maxHeartbeats 1000000 in
theorem z_lload {X : Sx2} {L : Nat} {scr : Int → Int} {p : Program} {l : Launch} {e : Env} {R : Room} {s : State} {m : MethodId} {args : Array Value} {below : List Frame} {meth : Method} {c : Code} {own : String} {cc : ByteArray} {nL c0 s0 B : Nat} {ea : Bool} {Q : State → Prop} {D : va_G} {cA : Nat → ClassId} {ad : Nat → Nat} {A : Nat → Prop} (F : Fx2 X L scr p s m args c own cc nL R c0 s0 B ea D cA ad A) : q_lload X L (xcF scr) ea B (JW2 p l e R s m args below meth c nL c0 s0 Q D cA ad A L ea) := by
  obtain ⟨hx, hb, hml, hown, hts, hK, had, hE, hL, htab, hkL, hkI, hcl, hcw2, hbR, hA0, hD2, hD3⟩ := F
  intro b pc q lp st M i x hb0 h1 h2 h3 k
  have hb0 := Nat.le_of_ble_eq_true hb0
  have hdg := htab _ (lk_mem h1)
  subst h2
  intro H locs ls hP hS hl
  exact lv_lload hx hb hdg (hl.get h3) (k H locs ls hP hS hl)
set_option maxHeartbeats 1000000 in
theorem z_aload_n {X : Sx2} {L : Nat} {scr : Int → Int} {p : Program} {l : Launch} {e : Env} {R : Room} {s : State} {m : MethodId} {args : Array Value} {below : List Frame} {meth : Method} {c : Code} {own : String} {cc : ByteArray} {nL c0 s0 B : Nat} {ea : Bool} {Q : State → Prop} {D : va_G} {cA : Nat → ClassId} {ad : Nat → Nat} {A : Nat → Prop} (F : Fx2 X L scr p s m args c own cc nL R c0 s0 B ea D cA ad A) : q_aload_n X L (xcF scr) ea B (JW2 p l e R s m args below meth c nL c0 s0 Q D cA ad A L ea) := by
  obtain ⟨hx, hb, hml, hown, hts, hK, had, hE, hL, htab, hkL, hkI, hcl, hcw2, hbR, hA0, hD2, hD3⟩ := F
  intro b pc q lp st M k4 i r hb0 h1 h2 h3 h4 k
  have hb0 := Nat.le_of_ble_eq_true hb0
  have hdg := htab _ (lk_mem h1)
  subst h2
  intro H locs ls hP hS hl
  exact lv_aload_n hx hb hdg h3 (hl.get h4) (k H locs ls hP hS hl)
set_option maxHeartbeats 1000000 in
theorem z_aload {X : Sx2} {L : Nat} {scr : Int → Int} {p : Program} {l : Launch} {e : Env} {R : Room} {s : State} {m : MethodId} {args : Array Value} {below : List Frame} {meth : Method} {c : Code} {own : String} {cc : ByteArray} {nL c0 s0 B : Nat} {ea : Bool} {Q : State → Prop} {D : va_G} {cA : Nat → ClassId} {ad : Nat → Nat} {A : Nat → Prop} (F : Fx2 X L scr p s m args c own cc nL R c0 s0 B ea D cA ad A) : q_aload X L (xcF scr) ea B (JW2 p l e R s m args below meth c nL c0 s0 Q D cA ad A L ea) := by
  obtain ⟨hx, hb, hml, hown, hts, hK, had, hE, hL, htab, hkL, hkI, hcl, hcw2, hbR, hA0, hD2, hD3⟩ := F
  intro b pc q lp st M i r hb0 h1 h2 h3 k
  have hb0 := Nat.le_of_ble_eq_true hb0
  have hdg := htab _ (lk_mem h1)
  subst h2
  intro H locs ls hP hS hl
  exact lv_aload hx hb hdg (hl.get h3) (k H locs ls hP hS hl)
set_option maxHeartbeats 1000000 in
theorem z_istore_n {X : Sx2} {L : Nat} {scr : Int → Int} {p : Program} {l : Launch} {e : Env} {R : Room} {s : State} {m : MethodId} {args : Array Value} {below : List Frame} {meth : Method} {c : Code} {own : String} {cc : ByteArray} {nL c0 s0 B : Nat} {ea : Bool} {Q : State → Prop} {D : va_G} {cA : Nat → ClassId} {ad : Nat → Nat} {A : Nat → Prop} (F : Fx2 X L scr p s m args c own cc nL R c0 s0 B ea D cA ad A) : q_istore_n X L (xcF scr) ea B (JW2 p l e R s m args below meth c nL c0 s0 Q D cA ad A L ea) := by
  obtain ⟨hx, hb, hml, hown, hts, hK, had, hE, hL, htab, hkL, hkI, hcl, hcw2, hbR, hA0, hD2, hD3⟩ := F
  intro b pc q lp st M k4 i x hb0 h1 h2 h3 h4 k
  have hb0 := Nat.le_of_ble_eq_true hb0
  have hdg := htab _ (lk_mem h1)
  subst h2
  intro H locs ls hP hS hl
  obtain ⟨l0, g1, g2, g3⟩ := hl
  have hi := okS_lt h4
  exact lv_istore_n hx hb hdg h3 g1 (g2 ▸ hi) rfl (fun ls' h' => k H locs ls' hP hS (LR.put g2 g3 h4 h'))
set_option maxHeartbeats 1000000 in
theorem z_istore {X : Sx2} {L : Nat} {scr : Int → Int} {p : Program} {l : Launch} {e : Env} {R : Room} {s : State} {m : MethodId} {args : Array Value} {below : List Frame} {meth : Method} {c : Code} {own : String} {cc : ByteArray} {nL c0 s0 B : Nat} {ea : Bool} {Q : State → Prop} {D : va_G} {cA : Nat → ClassId} {ad : Nat → Nat} {A : Nat → Prop} (F : Fx2 X L scr p s m args c own cc nL R c0 s0 B ea D cA ad A) : q_istore X L (xcF scr) ea B (JW2 p l e R s m args below meth c nL c0 s0 Q D cA ad A L ea) := by
  obtain ⟨hx, hb, hml, hown, hts, hK, had, hE, hL, htab, hkL, hkI, hcl, hcw2, hbR, hA0, hD2, hD3⟩ := F
  intro b pc q lp st M i x hb0 h1 h2 h3 k
  have hb0 := Nat.le_of_ble_eq_true hb0
  have hdg := htab _ (lk_mem h1)
  subst h2
  intro H locs ls hP hS hl
  obtain ⟨l0, g1, g2, g3⟩ := hl
  have hi := okS_lt h3
  exact lv_istore hx hb hdg g1 (g2 ▸ hi) rfl (fun ls' h' => k H locs ls' hP hS (LR.put g2 g3 h3 h'))
set_option maxHeartbeats 1000000 in
theorem z_astore_n {X : Sx2} {L : Nat} {scr : Int → Int} {p : Program} {l : Launch} {e : Env} {R : Room} {s : State} {m : MethodId} {args : Array Value} {below : List Frame} {meth : Method} {c : Code} {own : String} {cc : ByteArray} {nL c0 s0 B : Nat} {ea : Bool} {Q : State → Prop} {D : va_G} {cA : Nat → ClassId} {ad : Nat → Nat} {A : Nat → Prop} (F : Fx2 X L scr p s m args c own cc nL R c0 s0 B ea D cA ad A) : q_astore_n X L (xcF scr) ea B (JW2 p l e R s m args below meth c nL c0 s0 Q D cA ad A L ea) := by
  obtain ⟨hx, hb, hml, hown, hts, hK, had, hE, hL, htab, hkL, hkI, hcl, hcw2, hbR, hA0, hD2, hD3⟩ := F
  intro b pc q lp st M k4 i r hb0 h1 h2 h3 h4 k
  have hb0 := Nat.le_of_ble_eq_true hb0
  have hdg := htab _ (lk_mem h1)
  subst h2
  intro H locs ls hP hS hl
  obtain ⟨l0, g1, g2, g3⟩ := hl
  have hi := okS_lt h4
  exact lv_astore_n hx hb hdg h3 g1 (g2 ▸ hi) rfl (fun ls' h' => k H locs ls' hP hS (LR.put g2 g3 h4 h'))
set_option maxHeartbeats 1000000 in
theorem z_astore {X : Sx2} {L : Nat} {scr : Int → Int} {p : Program} {l : Launch} {e : Env} {R : Room} {s : State} {m : MethodId} {args : Array Value} {below : List Frame} {meth : Method} {c : Code} {own : String} {cc : ByteArray} {nL c0 s0 B : Nat} {ea : Bool} {Q : State → Prop} {D : va_G} {cA : Nat → ClassId} {ad : Nat → Nat} {A : Nat → Prop} (F : Fx2 X L scr p s m args c own cc nL R c0 s0 B ea D cA ad A) : q_astore X L (xcF scr) ea B (JW2 p l e R s m args below meth c nL c0 s0 Q D cA ad A L ea) := by
  obtain ⟨hx, hb, hml, hown, hts, hK, had, hE, hL, htab, hkL, hkI, hcl, hcw2, hbR, hA0, hD2, hD3⟩ := F
  intro b pc q lp st M i r hb0 h1 h2 h3 k
  have hb0 := Nat.le_of_ble_eq_true hb0
  have hdg := htab _ (lk_mem h1)
  subst h2
  intro H locs ls hP hS hl
  obtain ⟨l0, g1, g2, g3⟩ := hl
  have hi := okS_lt h3
  exact lv_astore hx hb hdg g1 (g2 ▸ hi) rfl (fun ls' h' => k H locs ls' hP hS (LR.put g2 g3 h3 h'))
set_option maxHeartbeats 1000000 in
theorem z_lstore_n {X : Sx2} {L : Nat} {scr : Int → Int} {p : Program} {l : Launch} {e : Env} {R : Room} {s : State} {m : MethodId} {args : Array Value} {below : List Frame} {meth : Method} {c : Code} {own : String} {cc : ByteArray} {nL c0 s0 B : Nat} {ea : Bool} {Q : State → Prop} {D : va_G} {cA : Nat → ClassId} {ad : Nat → Nat} {A : Nat → Prop} (F : Fx2 X L scr p s m args c own cc nL R c0 s0 B ea D cA ad A) : q_lstore_n X L (xcF scr) ea B (JW2 p l e R s m args below meth c nL c0 s0 Q D cA ad A L ea) := by
  obtain ⟨hx, hb, hml, hown, hts, hK, had, hE, hL, htab, hkL, hkI, hcl, hcw2, hbR, hA0, hD2, hD3⟩ := F
  intro b pc q lp st M k4 i x hb0 h1 h2 h3 h4 h5 k
  have hb0 := Nat.le_of_ble_eq_true hb0
  have hdg := htab _ (lk_mem h1)
  subst h2
  intro H locs ls hP hS hl
  obtain ⟨l0, g1, g2, g3⟩ := hl
  have hi := Nat.lt_of_lt_of_eq (Nat.lt_of_lt_of_le (Nat.lt_succ_self _) (Nat.le_of_ble_eq_true h5)) g2
  exact lv_lstore_n hx hb hdg h3 g1 (Nat.lt_of_lt_of_eq (Nat.lt_of_succ_le (Nat.le_of_ble_eq_true h5)) g2) rfl (fun ls' h' => k H locs ls' hP hS (LR.put2 g2 g3 h4 h'))
set_option maxHeartbeats 1000000 in
theorem z_lstore {X : Sx2} {L : Nat} {scr : Int → Int} {p : Program} {l : Launch} {e : Env} {R : Room} {s : State} {m : MethodId} {args : Array Value} {below : List Frame} {meth : Method} {c : Code} {own : String} {cc : ByteArray} {nL c0 s0 B : Nat} {ea : Bool} {Q : State → Prop} {D : va_G} {cA : Nat → ClassId} {ad : Nat → Nat} {A : Nat → Prop} (F : Fx2 X L scr p s m args c own cc nL R c0 s0 B ea D cA ad A) : q_lstore X L (xcF scr) ea B (JW2 p l e R s m args below meth c nL c0 s0 Q D cA ad A L ea) := by
  obtain ⟨hx, hb, hml, hown, hts, hK, had, hE, hL, htab, hkL, hkI, hcl, hcw2, hbR, hA0, hD2, hD3⟩ := F
  intro b pc q lp st M i x hb0 h1 h2 h3 h4 k
  have hb0 := Nat.le_of_ble_eq_true hb0
  have hdg := htab _ (lk_mem h1)
  subst h2
  intro H locs ls hP hS hl
  obtain ⟨l0, g1, g2, g3⟩ := hl
  have hi := Nat.lt_of_lt_of_eq (Nat.lt_of_lt_of_le (Nat.lt_succ_self _) (Nat.le_of_ble_eq_true h4)) g2
  exact lv_lstore hx hb hdg g1 (Nat.lt_of_lt_of_eq (Nat.lt_of_succ_le (Nat.le_of_ble_eq_true h4)) g2) rfl (fun ls' h' => k H locs ls' hP hS (LR.put2 g2 g3 h3 h'))
set_option maxHeartbeats 1000000 in
theorem z_iinc {X : Sx2} {L : Nat} {scr : Int → Int} {p : Program} {l : Launch} {e : Env} {R : Room} {s : State} {m : MethodId} {args : Array Value} {below : List Frame} {meth : Method} {c : Code} {own : String} {cc : ByteArray} {nL c0 s0 B : Nat} {ea : Bool} {Q : State → Prop} {D : va_G} {cA : Nat → ClassId} {ad : Nat → Nat} {A : Nat → Prop} (F : Fx2 X L scr p s m args c own cc nL R c0 s0 B ea D cA ad A) : q_iinc X L (xcF scr) ea B (JW2 p l e R s m args below meth c nL c0 s0 Q D cA ad A L ea) := by
  obtain ⟨hx, hb, hml, hown, hts, hK, had, hE, hL, htab, hkL, hkI, hcl, hcw2, hbR, hA0, hD2, hD3⟩ := F
  intro b pc q lp st M i n x hb0 h1 h2 h3 h4 k
  have hb0 := Nat.le_of_ble_eq_true hb0
  have hdg := htab _ (lk_mem h1)
  subst h2
  intro H locs ls hP hS hl
  obtain ⟨l0, g1, g2, g3⟩ := hl
  have hi := okS_lt h4
  obtain ⟨k0, hk0⟩ := List.getElem?_of_mem (g3 i _ h3)
  exact lv_iinc hx hb hdg g1 hk0 (Int32.ofInt_add x n).symm (g2 ▸ hi) rfl (fun ls' h' => k H locs ls' hP hS (LR.put (w := .inl (x + n)) g2 g3 h4 h'))
set_option maxHeartbeats 1000000 in
theorem z_iadd {X : Sx2} {L : Nat} {scr : Int → Int} {p : Program} {l : Launch} {e : Env} {R : Room} {s : State} {m : MethodId} {args : Array Value} {below : List Frame} {meth : Method} {c : Code} {own : String} {cc : ByteArray} {nL c0 s0 B : Nat} {ea : Bool} {Q : State → Prop} {D : va_G} {cA : Nat → ClassId} {ad : Nat → Nat} {A : Nat → Prop} (F : Fx2 X L scr p s m args c own cc nL R c0 s0 B ea D cA ad A) : q_iadd X L (xcF scr) ea B (JW2 p l e R s m args below meth c nL c0 s0 Q D cA ad A L ea) := by
  obtain ⟨hx, hb, hml, hown, hts, hK, had, hE, hL, htab, hkL, hkI, hcl, hcw2, hbR, hA0, hD2, hD3⟩ := F
  intro b pc q lp st M x y hb0 h1 h2 k
  have hb0 := Nat.le_of_ble_eq_true hb0
  have hdg := htab _ (lk_mem h1)
  subst h2
  intro H locs ls hP hS hl
  exact lv_iadd hx hb hdg (by have := k H locs ls hP hS hl; simp only [List.map_cons, vp] at this; rw [Int32.ofInt_add] at this; exact this)
set_option maxHeartbeats 1000000 in
theorem z_isub {X : Sx2} {L : Nat} {scr : Int → Int} {p : Program} {l : Launch} {e : Env} {R : Room} {s : State} {m : MethodId} {args : Array Value} {below : List Frame} {meth : Method} {c : Code} {own : String} {cc : ByteArray} {nL c0 s0 B : Nat} {ea : Bool} {Q : State → Prop} {D : va_G} {cA : Nat → ClassId} {ad : Nat → Nat} {A : Nat → Prop} (F : Fx2 X L scr p s m args c own cc nL R c0 s0 B ea D cA ad A) : q_isub X L (xcF scr) ea B (JW2 p l e R s m args below meth c nL c0 s0 Q D cA ad A L ea) := by
  obtain ⟨hx, hb, hml, hown, hts, hK, had, hE, hL, htab, hkL, hkI, hcl, hcw2, hbR, hA0, hD2, hD3⟩ := F
  intro b pc q lp st M x y hb0 h1 h2 k
  have hb0 := Nat.le_of_ble_eq_true hb0
  have hdg := htab _ (lk_mem h1)
  subst h2
  intro H locs ls hP hS hl
  exact lv_isub hx hb hdg (by have := k H locs ls hP hS hl; simp only [List.map_cons, vp] at this; rw [Int32.ofInt_sub] at this; exact this)
set_option maxHeartbeats 1000000 in
theorem z_imul {X : Sx2} {L : Nat} {scr : Int → Int} {p : Program} {l : Launch} {e : Env} {R : Room} {s : State} {m : MethodId} {args : Array Value} {below : List Frame} {meth : Method} {c : Code} {own : String} {cc : ByteArray} {nL c0 s0 B : Nat} {ea : Bool} {Q : State → Prop} {D : va_G} {cA : Nat → ClassId} {ad : Nat → Nat} {A : Nat → Prop} (F : Fx2 X L scr p s m args c own cc nL R c0 s0 B ea D cA ad A) : q_imul X L (xcF scr) ea B (JW2 p l e R s m args below meth c nL c0 s0 Q D cA ad A L ea) := by
  obtain ⟨hx, hb, hml, hown, hts, hK, had, hE, hL, htab, hkL, hkI, hcl, hcw2, hbR, hA0, hD2, hD3⟩ := F
  intro b pc q lp st M x y hb0 h1 h2 k
  have hb0 := Nat.le_of_ble_eq_true hb0
  have hdg := htab _ (lk_mem h1)
  subst h2
  intro H locs ls hP hS hl
  exact lv_imul hx hb hdg (by have := k H locs ls hP hS hl; simp only [List.map_cons, vp] at this; rw [Int32.ofInt_mul] at this; exact this)
set_option maxHeartbeats 1000000 in
theorem z_ineg {X : Sx2} {L : Nat} {scr : Int → Int} {p : Program} {l : Launch} {e : Env} {R : Room} {s : State} {m : MethodId} {args : Array Value} {below : List Frame} {meth : Method} {c : Code} {own : String} {cc : ByteArray} {nL c0 s0 B : Nat} {ea : Bool} {Q : State → Prop} {D : va_G} {cA : Nat → ClassId} {ad : Nat → Nat} {A : Nat → Prop} (F : Fx2 X L scr p s m args c own cc nL R c0 s0 B ea D cA ad A) : q_ineg X L (xcF scr) ea B (JW2 p l e R s m args below meth c nL c0 s0 Q D cA ad A L ea) := by
  obtain ⟨hx, hb, hml, hown, hts, hK, had, hE, hL, htab, hkL, hkI, hcl, hcw2, hbR, hA0, hD2, hD3⟩ := F
  intro b pc q lp st M x hb0 h1 h2 k
  have hb0 := Nat.le_of_ble_eq_true hb0
  have hdg := htab _ (lk_mem h1)
  subst h2
  intro H locs ls hP hS hl
  exact lv_ineg hx hb hdg (by have := k H locs ls hP hS hl; simp only [List.map_cons, vp] at this; rw [Int32.ofInt_neg] at this; exact this)
set_option maxHeartbeats 1000000 in
theorem z_idiv {X : Sx2} {L : Nat} {scr : Int → Int} {p : Program} {l : Launch} {e : Env} {R : Room} {s : State} {m : MethodId} {args : Array Value} {below : List Frame} {meth : Method} {c : Code} {own : String} {cc : ByteArray} {nL c0 s0 B : Nat} {ea : Bool} {Q : State → Prop} {D : va_G} {cA : Nat → ClassId} {ad : Nat → Nat} {A : Nat → Prop} (F : Fx2 X L scr p s m args c own cc nL R c0 s0 B ea D cA ad A) : q_idiv X L (xcF scr) ea B (JW2 p l e R s m args below meth c nL c0 s0 Q D cA ad A L ea) := by
  obtain ⟨hx, hb, hml, hown, hts, hK, had, hE, hL, htab, hkL, hkI, hcl, hcw2, hbR, hA0, hD2, hD3⟩ := F
  intro b pc q lp st M x y hb0 h1 h2 h3 k
  have hb0 := Nat.le_of_ble_eq_true hb0
  have hdg := htab _ (lk_mem h1)
  subst h2
  intro H locs ls hP hS hl
  exact lv_idiv hx hb hdg (fun e => h3.2 ((of_eq h3.1 ⟨by decide, by decide⟩).mp e)) (by have := k H locs ls hP hS hl; simp only [List.map_cons, vp, i32div, of_i32] at this; exact this)
set_option maxHeartbeats 1000000 in
theorem z_irem {X : Sx2} {L : Nat} {scr : Int → Int} {p : Program} {l : Launch} {e : Env} {R : Room} {s : State} {m : MethodId} {args : Array Value} {below : List Frame} {meth : Method} {c : Code} {own : String} {cc : ByteArray} {nL c0 s0 B : Nat} {ea : Bool} {Q : State → Prop} {D : va_G} {cA : Nat → ClassId} {ad : Nat → Nat} {A : Nat → Prop} (F : Fx2 X L scr p s m args c own cc nL R c0 s0 B ea D cA ad A) : q_irem X L (xcF scr) ea B (JW2 p l e R s m args below meth c nL c0 s0 Q D cA ad A L ea) := by
  obtain ⟨hx, hb, hml, hown, hts, hK, had, hE, hL, htab, hkL, hkI, hcl, hcw2, hbR, hA0, hD2, hD3⟩ := F
  intro b pc q lp st M x y hb0 h1 h2 h3 k
  have hb0 := Nat.le_of_ble_eq_true hb0
  have hdg := htab _ (lk_mem h1)
  subst h2
  intro H locs ls hP hS hl
  exact lv_irem hx hb hdg (fun e => h3.2 ((of_eq h3.1 ⟨by decide, by decide⟩).mp e)) (by have := k H locs ls hP hS hl; simp only [List.map_cons, vp, i32rem, of_i32] at this; exact this)
set_option maxHeartbeats 1000000 in
theorem z_ishl {X : Sx2} {L : Nat} {scr : Int → Int} {p : Program} {l : Launch} {e : Env} {R : Room} {s : State} {m : MethodId} {args : Array Value} {below : List Frame} {meth : Method} {c : Code} {own : String} {cc : ByteArray} {nL c0 s0 B : Nat} {ea : Bool} {Q : State → Prop} {D : va_G} {cA : Nat → ClassId} {ad : Nat → Nat} {A : Nat → Prop} (F : Fx2 X L scr p s m args c own cc nL R c0 s0 B ea D cA ad A) : q_ishl X L (xcF scr) ea B (JW2 p l e R s m args below meth c nL c0 s0 Q D cA ad A L ea) := by
  obtain ⟨hx, hb, hml, hown, hts, hK, had, hE, hL, htab, hkL, hkI, hcl, hcw2, hbR, hA0, hD2, hD3⟩ := F
  intro b pc q lp st M x y hb0 h1 h2 k
  have hb0 := Nat.le_of_ble_eq_true hb0
  have hdg := htab _ (lk_mem h1)
  subst h2
  intro H locs ls hP hS hl
  exact lv_ishl hx hb hdg  (by have := k H locs ls hP hS hl; simp only [List.map_cons, vp, xishl, of_i32] at this; exact this)
set_option maxHeartbeats 1000000 in
theorem z_ishr {X : Sx2} {L : Nat} {scr : Int → Int} {p : Program} {l : Launch} {e : Env} {R : Room} {s : State} {m : MethodId} {args : Array Value} {below : List Frame} {meth : Method} {c : Code} {own : String} {cc : ByteArray} {nL c0 s0 B : Nat} {ea : Bool} {Q : State → Prop} {D : va_G} {cA : Nat → ClassId} {ad : Nat → Nat} {A : Nat → Prop} (F : Fx2 X L scr p s m args c own cc nL R c0 s0 B ea D cA ad A) : q_ishr X L (xcF scr) ea B (JW2 p l e R s m args below meth c nL c0 s0 Q D cA ad A L ea) := by
  obtain ⟨hx, hb, hml, hown, hts, hK, had, hE, hL, htab, hkL, hkI, hcl, hcw2, hbR, hA0, hD2, hD3⟩ := F
  intro b pc q lp st M x y hb0 h1 h2 k
  have hb0 := Nat.le_of_ble_eq_true hb0
  have hdg := htab _ (lk_mem h1)
  subst h2
  intro H locs ls hP hS hl
  exact lv_ishr hx hb hdg  (by have := k H locs ls hP hS hl; simp only [List.map_cons, vp, xishr, of_i32] at this; exact this)
set_option maxHeartbeats 1000000 in
theorem z_iand {X : Sx2} {L : Nat} {scr : Int → Int} {p : Program} {l : Launch} {e : Env} {R : Room} {s : State} {m : MethodId} {args : Array Value} {below : List Frame} {meth : Method} {c : Code} {own : String} {cc : ByteArray} {nL c0 s0 B : Nat} {ea : Bool} {Q : State → Prop} {D : va_G} {cA : Nat → ClassId} {ad : Nat → Nat} {A : Nat → Prop} (F : Fx2 X L scr p s m args c own cc nL R c0 s0 B ea D cA ad A) : q_iand X L (xcF scr) ea B (JW2 p l e R s m args below meth c nL c0 s0 Q D cA ad A L ea) := by
  obtain ⟨hx, hb, hml, hown, hts, hK, had, hE, hL, htab, hkL, hkI, hcl, hcw2, hbR, hA0, hD2, hD3⟩ := F
  intro b pc q lp st M x y hb0 h1 h2 k
  have hb0 := Nat.le_of_ble_eq_true hb0
  have hdg := htab _ (lk_mem h1)
  subst h2
  intro H locs ls hP hS hl
  exact lv_iand hx hb hdg  (by have := k H locs ls hP hS hl; simp only [List.map_cons, vp, xiand, of_i32] at this; exact this)
set_option maxHeartbeats 1000000 in
theorem z_ior {X : Sx2} {L : Nat} {scr : Int → Int} {p : Program} {l : Launch} {e : Env} {R : Room} {s : State} {m : MethodId} {args : Array Value} {below : List Frame} {meth : Method} {c : Code} {own : String} {cc : ByteArray} {nL c0 s0 B : Nat} {ea : Bool} {Q : State → Prop} {D : va_G} {cA : Nat → ClassId} {ad : Nat → Nat} {A : Nat → Prop} (F : Fx2 X L scr p s m args c own cc nL R c0 s0 B ea D cA ad A) : q_ior X L (xcF scr) ea B (JW2 p l e R s m args below meth c nL c0 s0 Q D cA ad A L ea) := by
  obtain ⟨hx, hb, hml, hown, hts, hK, had, hE, hL, htab, hkL, hkI, hcl, hcw2, hbR, hA0, hD2, hD3⟩ := F
  intro b pc q lp st M x y hb0 h1 h2 k
  have hb0 := Nat.le_of_ble_eq_true hb0
  have hdg := htab _ (lk_mem h1)
  subst h2
  intro H locs ls hP hS hl
  exact lv_ior hx hb hdg  (by have := k H locs ls hP hS hl; simp only [List.map_cons, vp, xior, of_i32] at this; exact this)
set_option maxHeartbeats 1000000 in
theorem z_dup2 {X : Sx2} {L : Nat} {scr : Int → Int} {p : Program} {l : Launch} {e : Env} {R : Room} {s : State} {m : MethodId} {args : Array Value} {below : List Frame} {meth : Method} {c : Code} {own : String} {cc : ByteArray} {nL c0 s0 B : Nat} {ea : Bool} {Q : State → Prop} {D : va_G} {cA : Nat → ClassId} {ad : Nat → Nat} {A : Nat → Prop} (F : Fx2 X L scr p s m args c own cc nL R c0 s0 B ea D cA ad A) : q_dup2 X L (xcF scr) ea B (JW2 p l e R s m args below meth c nL c0 s0 Q D cA ad A L ea) := by
  obtain ⟨hx, hb, hml, hown, hts, hK, had, hE, hL, htab, hkL, hkI, hcl, hcw2, hbR, hA0, hD2, hD3⟩ := F
  intro b pc q lp st M x y hb0 h1 h2 h3 h4 k
  have hb0 := Nat.le_of_ble_eq_true hb0
  have hdg := htab _ (lk_mem h1)
  subst h2
  intro H locs ls hP hS hl
  exact lv_dup2_11 hx hb hdg (cat1 ad h4) (cat1 ad h3) (k H locs ls hP hS hl)
set_option maxHeartbeats 1000000 in
theorem z_goto {X : Sx2} {L : Nat} {scr : Int → Int} {p : Program} {l : Launch} {e : Env} {R : Room} {s : State} {m : MethodId} {args : Array Value} {below : List Frame} {meth : Method} {c : Code} {own : String} {cc : ByteArray} {nL c0 s0 B : Nat} {ea : Bool} {Q : State → Prop} {D : va_G} {cA : Nat → ClassId} {ad : Nat → Nat} {A : Nat → Prop} (F : Fx2 X L scr p s m args c own cc nL R c0 s0 B ea D cA ad A) : q_goto X L (xcF scr) ea B (JW2 p l e R s m args below meth c nL c0 s0 Q D cA ad A L ea) := by
  obtain ⟨hx, hb, hml, hown, hts, hK, had, hE, hL, htab, hkL, hkI, hcl, hcw2, hbR, hA0, hD2, hD3⟩ := F
  intro b pc q lp st M off tgt hb0 h1 h2 h3 k
  have hb0 := Nat.le_of_ble_eq_true hb0
  have hdg := htab _ (lk_mem h1)
  subst h2
  intro H locs ls hP hS hl
  exact lv_goto hx hb hdg h3 (k H locs ls hP hS hl)
set_option maxHeartbeats 1000000 in
theorem z_tblIn {X : Sx2} {L : Nat} {scr : Int → Int} {p : Program} {l : Launch} {e : Env} {R : Room} {s : State} {m : MethodId} {args : Array Value} {below : List Frame} {meth : Method} {c : Code} {own : String} {cc : ByteArray} {nL c0 s0 B : Nat} {ea : Bool} {Q : State → Prop} {D : va_G} {cA : Nat → ClassId} {ad : Nat → Nat} {A : Nat → Prop} (F : Fx2 X L scr p s m args c own cc nL R c0 s0 B ea D cA ad A) : q_tblIn X L (xcF scr) ea B (JW2 p l e R s m args below meth c nL c0 s0 Q D cA ad A L ea) := by
  obtain ⟨hx, hb, hml, hown, hts, hK, had, hE, hL, htab, hkL, hkI, hcl, hcw2, hbR, hA0, hD2, hD3⟩ := F
  intro b pc q lp st M x dflt lo hi offs len off tgt hb0 h1 h2 h3 h4 h5 h6 k
  have hb0 := Nat.le_of_ble_eq_true hb0
  have hdg := htab _ (lk_mem h1)
  subst h2
  intro H locs ls hP hS hl
  have e := i32_id h3
  unfold i32 at e
  exact lv_tableIn hx hb hdg (by rw [e]; omega) (by rw [e]; omega) (by rw [e]; exact h5) h6 (k H locs ls hP hS hl)
set_option maxHeartbeats 1000000 in
theorem z_tblOut {X : Sx2} {L : Nat} {scr : Int → Int} {p : Program} {l : Launch} {e : Env} {R : Room} {s : State} {m : MethodId} {args : Array Value} {below : List Frame} {meth : Method} {c : Code} {own : String} {cc : ByteArray} {nL c0 s0 B : Nat} {ea : Bool} {Q : State → Prop} {D : va_G} {cA : Nat → ClassId} {ad : Nat → Nat} {A : Nat → Prop} (F : Fx2 X L scr p s m args c own cc nL R c0 s0 B ea D cA ad A) : q_tblOut X L (xcF scr) ea B (JW2 p l e R s m args below meth c nL c0 s0 Q D cA ad A L ea) := by
  obtain ⟨hx, hb, hml, hown, hts, hK, had, hE, hL, htab, hkL, hkI, hcl, hcw2, hbR, hA0, hD2, hD3⟩ := F
  intro b pc q lp st M x dflt lo hi offs len tgt hb0 h1 h2 h3 h4 h5 k
  have hb0 := Nat.le_of_ble_eq_true hb0
  have hdg := htab _ (lk_mem h1)
  subst h2
  intro H locs ls hP hS hl
  have e := i32_id h3
  unfold i32 at e
  exact lv_tableOut hx hb hdg (by rw [e]; exact h4) h5 (k H locs ls hP hS hl)
set_option maxHeartbeats 1000000 in
theorem z_ialdX {X : Sx2} {L : Nat} {scr : Int → Int} {p : Program} {l : Launch} {e : Env} {R : Room} {s : State} {m : MethodId} {args : Array Value} {below : List Frame} {meth : Method} {c : Code} {own : String} {cc : ByteArray} {nL c0 s0 B : Nat} {ea : Bool} {Q : State → Prop} {D : va_G} {cA : Nat → ClassId} {ad : Nat → Nat} {A : Nat → Prop} (F : Fx2 X L scr p s m args c own cc nL R c0 s0 B ea D cA ad A) : q_ialdX X L (xcF scr) ea B (JW2 p l e R s m args below meth c nL c0 s0 Q D cA ad A L ea) := by
  obtain ⟨hx, hb, hml, hown, hts, hK, had, hE, hL, htab, hkL, hkI, hcl, hcw2, hbR, hA0, hD2, hD3⟩ := F
  intro b pc q lp st M i r hb0 h1 h2 h3 h4 k
  have hb0 := Nat.le_of_ble_eq_true hb0
  have hdg := htab _ (lk_mem h1)
  subst h2
  intro H locs ls hP hS hl
  obtain ⟨cell, e1, e2, e3, e4, e5, e6, e7⟩ := hE.1 r h3
  have hn : exN L r < 2147483648 := by unfold exN; split <;> omega
  obtain ⟨g1, g2⟩ := of_in h4.1 h4.2 hn
  have hlt : i.toNat < exN L r := by omega
  have e6 : cell.slots[i.toNat]? = some (Value.int (Int32.ofInt (nt_ (xcF scr r) i.toNat))) := e6 _ hlt
  rw [show nt_ (xcF scr r) i.toNat = xcF scr r i from congrArg (xcF scr r) (Int.toNat_of_nonneg h4.1)] at e6
  exact W.iald (v := .int (Int32.ofInt (xcF scr r i))) hx hb (by rw [hS.2.1 _ (Array.getElem?_eq_some_iff.mp e1).1 e7]; exact e1) e2 e3 (fun z => g1 (z.imp id (fun z => Nat.le_trans e4 z))) (by rw [g2]; exact e6) rfl rfl hdg (k H locs ls hP hS hl)
set_option maxHeartbeats 1000000 in
theorem z_alenX {X : Sx2} {L : Nat} {scr : Int → Int} {p : Program} {l : Launch} {e : Env} {R : Room} {s : State} {m : MethodId} {args : Array Value} {below : List Frame} {meth : Method} {c : Code} {own : String} {cc : ByteArray} {nL c0 s0 B : Nat} {ea : Bool} {Q : State → Prop} {D : va_G} {cA : Nat → ClassId} {ad : Nat → Nat} {A : Nat → Prop} (F : Fx2 X L scr p s m args c own cc nL R c0 s0 B ea D cA ad A) : q_alenX X L (xcF scr) ea B (JW2 p l e R s m args below meth c nL c0 s0 Q D cA ad A L ea) := by
  obtain ⟨hx, hb, hml, hown, hts, hK, had, hE, hL, htab, hkL, hkI, hcl, hcw2, hbR, hA0, hD2, hD3⟩ := F
  intro b pc q lp st M r hb0 h1 h2 h3 k
  have hb0 := Nat.le_of_ble_eq_true hb0
  have hdg := htab _ (lk_mem h1)
  subst h2
  intro H locs ls hP hS hl
  obtain ⟨cell, e1, e2, e3, e4, e5, e6, e7⟩ := hE.1 r h3
  exact W.alen hx hb (by rw [hS.2.1 _ (Array.getElem?_eq_some_iff.mp e1).1 e7]; exact e1) e2 (e5.trans (of_nI _).symm) rfl rfl hdg (k H locs ls hP hS hl)
set_option maxHeartbeats 1000000 in
theorem z_eqS {X : Sx2} {L : Nat} {scr : Int → Int} {p : Program} {l : Launch} {e : Env} {R : Room} {s : State} {m : MethodId} {args : Array Value} {below : List Frame} {meth : Method} {c : Code} {own : String} {cc : ByteArray} {nL c0 s0 B : Nat} {ea : Bool} {Q : State → Prop} {D : va_G} {cA : Nat → ClassId} {ad : Nat → Nat} {A : Nat → Prop} (F : Fx2 X L scr p s m args c own cc nL R c0 s0 B ea D cA ad A) : q_eqS X L (xcF scr) ea B (JW2 p l e R s m args below meth c nL c0 s0 Q D cA ad A L ea) := by
  obtain ⟨hx, hb, hml, hown, hts, hK, had, hE, hL, htab, hkL, hkI, hcl, hcw2, hbR, hA0, hD2, hD3⟩ := F
  intro b pc q lp st M x off tgt hb0 h1 h2 h3 k
  have hb0 := Nat.le_of_ble_eq_true hb0
  have hdg := htab _ (lk_mem h1)
  subst h2
  intro H locs ls hP hS hl
  exact lv_icmp_eq hx hb hdg h3 (fun _ => k H locs ls hP hS hl) (fun z => absurd rfl z)
set_option maxHeartbeats 1000000 in
theorem z_if_eq {X : Sx2} {L : Nat} {scr : Int → Int} {p : Program} {l : Launch} {e : Env} {R : Room} {s : State} {m : MethodId} {args : Array Value} {below : List Frame} {meth : Method} {c : Code} {own : String} {cc : ByteArray} {nL c0 s0 B : Nat} {ea : Bool} {Q : State → Prop} {D : va_G} {cA : Nat → ClassId} {ad : Nat → Nat} {A : Nat → Prop} (F : Fx2 X L scr p s m args c own cc nL R c0 s0 B ea D cA ad A) : q_if_eq X L (xcF scr) ea B (JW2 p l e R s m args below meth c nL c0 s0 Q D cA ad A L ea) := by
  obtain ⟨hx, hb, hml, hown, hts, hK, had, hE, hL, htab, hkL, hkI, hcl, hcw2, hbR, hA0, hD2, hD3⟩ := F
  intro b pc q lp st M x off tgt hb0 h1 h2 h3 h4 k
  have hb0 := Nat.le_of_ble_eq_true hb0
  have hdg := htab _ (lk_mem h1)
  subst h2
  intro H locs ls hP hS hl
  exact lv_if_eq hx hb hdg h3 (fun z => k.1 ((of_eq h4 ⟨by decide, by decide⟩).mp z) H locs ls hP hS hl) (fun z => k.2 (fun e => z ((of_eq h4 ⟨by decide, by decide⟩).mpr e)) H locs ls hP hS hl)
set_option maxHeartbeats 1000000 in
theorem z_if_ne {X : Sx2} {L : Nat} {scr : Int → Int} {p : Program} {l : Launch} {e : Env} {R : Room} {s : State} {m : MethodId} {args : Array Value} {below : List Frame} {meth : Method} {c : Code} {own : String} {cc : ByteArray} {nL c0 s0 B : Nat} {ea : Bool} {Q : State → Prop} {D : va_G} {cA : Nat → ClassId} {ad : Nat → Nat} {A : Nat → Prop} (F : Fx2 X L scr p s m args c own cc nL R c0 s0 B ea D cA ad A) : q_if_ne X L (xcF scr) ea B (JW2 p l e R s m args below meth c nL c0 s0 Q D cA ad A L ea) := by
  obtain ⟨hx, hb, hml, hown, hts, hK, had, hE, hL, htab, hkL, hkI, hcl, hcw2, hbR, hA0, hD2, hD3⟩ := F
  intro b pc q lp st M x off tgt hb0 h1 h2 h3 h4 k
  have hb0 := Nat.le_of_ble_eq_true hb0
  have hdg := htab _ (lk_mem h1)
  subst h2
  intro H locs ls hP hS hl
  exact lv_if_ne hx hb hdg h3 (fun z => k.1 (fun e => z ((of_eq h4 ⟨by decide, by decide⟩).mpr e)) H locs ls hP hS hl) (fun z => k.2 (fun g => g ((of_eq h4 ⟨by decide, by decide⟩).mp z)) H locs ls hP hS hl)
set_option maxHeartbeats 1000000 in
theorem z_if_lt {X : Sx2} {L : Nat} {scr : Int → Int} {p : Program} {l : Launch} {e : Env} {R : Room} {s : State} {m : MethodId} {args : Array Value} {below : List Frame} {meth : Method} {c : Code} {own : String} {cc : ByteArray} {nL c0 s0 B : Nat} {ea : Bool} {Q : State → Prop} {D : va_G} {cA : Nat → ClassId} {ad : Nat → Nat} {A : Nat → Prop} (F : Fx2 X L scr p s m args c own cc nL R c0 s0 B ea D cA ad A) : q_if_lt X L (xcF scr) ea B (JW2 p l e R s m args below meth c nL c0 s0 Q D cA ad A L ea) := by
  obtain ⟨hx, hb, hml, hown, hts, hK, had, hE, hL, htab, hkL, hkI, hcl, hcw2, hbR, hA0, hD2, hD3⟩ := F
  intro b pc q lp st M x off tgt hb0 h1 h2 h3 h4 k
  have hb0 := Nat.le_of_ble_eq_true hb0
  have hdg := htab _ (lk_mem h1)
  subst h2
  intro H locs ls hP hS hl
  exact lv_if_lt hx hb hdg h3 (fun z => k.1 ((of_lt h4 ⟨by decide, by decide⟩).mp z) H locs ls hP hS hl) (fun z => k.2 (fun e => z ((of_lt h4 ⟨by decide, by decide⟩).mpr e)) H locs ls hP hS hl)
set_option maxHeartbeats 1000000 in
theorem z_if_ge {X : Sx2} {L : Nat} {scr : Int → Int} {p : Program} {l : Launch} {e : Env} {R : Room} {s : State} {m : MethodId} {args : Array Value} {below : List Frame} {meth : Method} {c : Code} {own : String} {cc : ByteArray} {nL c0 s0 B : Nat} {ea : Bool} {Q : State → Prop} {D : va_G} {cA : Nat → ClassId} {ad : Nat → Nat} {A : Nat → Prop} (F : Fx2 X L scr p s m args c own cc nL R c0 s0 B ea D cA ad A) : q_if_ge X L (xcF scr) ea B (JW2 p l e R s m args below meth c nL c0 s0 Q D cA ad A L ea) := by
  obtain ⟨hx, hb, hml, hown, hts, hK, had, hE, hL, htab, hkL, hkI, hcl, hcw2, hbR, hA0, hD2, hD3⟩ := F
  intro b pc q lp st M x off tgt hb0 h1 h2 h3 h4 k
  have hb0 := Nat.le_of_ble_eq_true hb0
  have hdg := htab _ (lk_mem h1)
  subst h2
  intro H locs ls hP hS hl
  exact lv_if_ge hx hb hdg h3 (fun z => k.1 ((of_le ⟨by decide, by decide⟩ h4).mp z) H locs ls hP hS hl) (fun z => k.2 (fun e => z ((of_le ⟨by decide, by decide⟩ h4).mpr e)) H locs ls hP hS hl)
set_option maxHeartbeats 1000000 in
theorem z_if_gt {X : Sx2} {L : Nat} {scr : Int → Int} {p : Program} {l : Launch} {e : Env} {R : Room} {s : State} {m : MethodId} {args : Array Value} {below : List Frame} {meth : Method} {c : Code} {own : String} {cc : ByteArray} {nL c0 s0 B : Nat} {ea : Bool} {Q : State → Prop} {D : va_G} {cA : Nat → ClassId} {ad : Nat → Nat} {A : Nat → Prop} (F : Fx2 X L scr p s m args c own cc nL R c0 s0 B ea D cA ad A) : q_if_gt X L (xcF scr) ea B (JW2 p l e R s m args below meth c nL c0 s0 Q D cA ad A L ea) := by
  obtain ⟨hx, hb, hml, hown, hts, hK, had, hE, hL, htab, hkL, hkI, hcl, hcw2, hbR, hA0, hD2, hD3⟩ := F
  intro b pc q lp st M x off tgt hb0 h1 h2 h3 h4 k
  have hb0 := Nat.le_of_ble_eq_true hb0
  have hdg := htab _ (lk_mem h1)
  subst h2
  intro H locs ls hP hS hl
  exact lv_if_gt hx hb hdg h3 (fun z => k.1 ((of_lt ⟨by decide, by decide⟩ h4).mp z) H locs ls hP hS hl) (fun z => k.2 (fun e => z ((of_lt ⟨by decide, by decide⟩ h4).mpr e)) H locs ls hP hS hl)
set_option maxHeartbeats 1000000 in
theorem z_if_le {X : Sx2} {L : Nat} {scr : Int → Int} {p : Program} {l : Launch} {e : Env} {R : Room} {s : State} {m : MethodId} {args : Array Value} {below : List Frame} {meth : Method} {c : Code} {own : String} {cc : ByteArray} {nL c0 s0 B : Nat} {ea : Bool} {Q : State → Prop} {D : va_G} {cA : Nat → ClassId} {ad : Nat → Nat} {A : Nat → Prop} (F : Fx2 X L scr p s m args c own cc nL R c0 s0 B ea D cA ad A) : q_if_le X L (xcF scr) ea B (JW2 p l e R s m args below meth c nL c0 s0 Q D cA ad A L ea) := by
  obtain ⟨hx, hb, hml, hown, hts, hK, had, hE, hL, htab, hkL, hkI, hcl, hcw2, hbR, hA0, hD2, hD3⟩ := F
  intro b pc q lp st M x off tgt hb0 h1 h2 h3 h4 k
  have hb0 := Nat.le_of_ble_eq_true hb0
  have hdg := htab _ (lk_mem h1)
  subst h2
  intro H locs ls hP hS hl
  exact lv_if_le hx hb hdg h3 (fun z => k.1 ((of_le h4 ⟨by decide, by decide⟩).mp z) H locs ls hP hS hl) (fun z => k.2 (fun e => z ((of_le h4 ⟨by decide, by decide⟩).mpr e)) H locs ls hP hS hl)
set_option maxHeartbeats 1000000 in
theorem z_icmp_eq {X : Sx2} {L : Nat} {scr : Int → Int} {p : Program} {l : Launch} {e : Env} {R : Room} {s : State} {m : MethodId} {args : Array Value} {below : List Frame} {meth : Method} {c : Code} {own : String} {cc : ByteArray} {nL c0 s0 B : Nat} {ea : Bool} {Q : State → Prop} {D : va_G} {cA : Nat → ClassId} {ad : Nat → Nat} {A : Nat → Prop} (F : Fx2 X L scr p s m args c own cc nL R c0 s0 B ea D cA ad A) : q_icmp_eq X L (xcF scr) ea B (JW2 p l e R s m args below meth c nL c0 s0 Q D cA ad A L ea) := by
  obtain ⟨hx, hb, hml, hown, hts, hK, had, hE, hL, htab, hkL, hkI, hcl, hcw2, hbR, hA0, hD2, hD3⟩ := F
  intro b pc q lp st M x y off tgt hb0 h1 h2 h3 h4 h5 k
  have hb0 := Nat.le_of_ble_eq_true hb0
  have hdg := htab _ (lk_mem h1)
  subst h2
  intro H locs ls hP hS hl
  exact lv_icmp_eq hx hb hdg h3 (fun z => k.1 ((of_eq h4 h5).mp z) H locs ls hP hS hl) (fun z => k.2 (fun e => z ((of_eq h4 h5).mpr e)) H locs ls hP hS hl)
set_option maxHeartbeats 1000000 in
theorem z_icmp_ne {X : Sx2} {L : Nat} {scr : Int → Int} {p : Program} {l : Launch} {e : Env} {R : Room} {s : State} {m : MethodId} {args : Array Value} {below : List Frame} {meth : Method} {c : Code} {own : String} {cc : ByteArray} {nL c0 s0 B : Nat} {ea : Bool} {Q : State → Prop} {D : va_G} {cA : Nat → ClassId} {ad : Nat → Nat} {A : Nat → Prop} (F : Fx2 X L scr p s m args c own cc nL R c0 s0 B ea D cA ad A) : q_icmp_ne X L (xcF scr) ea B (JW2 p l e R s m args below meth c nL c0 s0 Q D cA ad A L ea) := by
  obtain ⟨hx, hb, hml, hown, hts, hK, had, hE, hL, htab, hkL, hkI, hcl, hcw2, hbR, hA0, hD2, hD3⟩ := F
  intro b pc q lp st M x y off tgt hb0 h1 h2 h3 h4 h5 k
  have hb0 := Nat.le_of_ble_eq_true hb0
  have hdg := htab _ (lk_mem h1)
  subst h2
  intro H locs ls hP hS hl
  exact lv_icmp_ne hx hb hdg h3 (fun z => k.1 (fun e => z ((of_eq h4 h5).mpr e)) H locs ls hP hS hl) (fun z => k.2 (fun g => g ((of_eq h4 h5).mp z)) H locs ls hP hS hl)
set_option maxHeartbeats 1000000 in
theorem z_icmp_lt {X : Sx2} {L : Nat} {scr : Int → Int} {p : Program} {l : Launch} {e : Env} {R : Room} {s : State} {m : MethodId} {args : Array Value} {below : List Frame} {meth : Method} {c : Code} {own : String} {cc : ByteArray} {nL c0 s0 B : Nat} {ea : Bool} {Q : State → Prop} {D : va_G} {cA : Nat → ClassId} {ad : Nat → Nat} {A : Nat → Prop} (F : Fx2 X L scr p s m args c own cc nL R c0 s0 B ea D cA ad A) : q_icmp_lt X L (xcF scr) ea B (JW2 p l e R s m args below meth c nL c0 s0 Q D cA ad A L ea) := by
  obtain ⟨hx, hb, hml, hown, hts, hK, had, hE, hL, htab, hkL, hkI, hcl, hcw2, hbR, hA0, hD2, hD3⟩ := F
  intro b pc q lp st M x y off tgt hb0 h1 h2 h3 h4 h5 k
  have hb0 := Nat.le_of_ble_eq_true hb0
  have hdg := htab _ (lk_mem h1)
  subst h2
  intro H locs ls hP hS hl
  exact lv_icmp_lt hx hb hdg h3 (fun z => k.1 ((of_lt h4 h5).mp z) H locs ls hP hS hl) (fun z => k.2 (fun e => z ((of_lt h4 h5).mpr e)) H locs ls hP hS hl)
set_option maxHeartbeats 1000000 in
theorem z_icmp_ge {X : Sx2} {L : Nat} {scr : Int → Int} {p : Program} {l : Launch} {e : Env} {R : Room} {s : State} {m : MethodId} {args : Array Value} {below : List Frame} {meth : Method} {c : Code} {own : String} {cc : ByteArray} {nL c0 s0 B : Nat} {ea : Bool} {Q : State → Prop} {D : va_G} {cA : Nat → ClassId} {ad : Nat → Nat} {A : Nat → Prop} (F : Fx2 X L scr p s m args c own cc nL R c0 s0 B ea D cA ad A) : q_icmp_ge X L (xcF scr) ea B (JW2 p l e R s m args below meth c nL c0 s0 Q D cA ad A L ea) := by
  obtain ⟨hx, hb, hml, hown, hts, hK, had, hE, hL, htab, hkL, hkI, hcl, hcw2, hbR, hA0, hD2, hD3⟩ := F
  intro b pc q lp st M x y off tgt hb0 h1 h2 h3 h4 h5 k
  have hb0 := Nat.le_of_ble_eq_true hb0
  have hdg := htab _ (lk_mem h1)
  subst h2
  intro H locs ls hP hS hl
  exact lv_icmp_ge hx hb hdg h3 (fun z => k.1 ((of_le h5 h4).mp z) H locs ls hP hS hl) (fun z => k.2 (fun e => z ((of_le h5 h4).mpr e)) H locs ls hP hS hl)
set_option maxHeartbeats 1000000 in
theorem z_icmp_gt {X : Sx2} {L : Nat} {scr : Int → Int} {p : Program} {l : Launch} {e : Env} {R : Room} {s : State} {m : MethodId} {args : Array Value} {below : List Frame} {meth : Method} {c : Code} {own : String} {cc : ByteArray} {nL c0 s0 B : Nat} {ea : Bool} {Q : State → Prop} {D : va_G} {cA : Nat → ClassId} {ad : Nat → Nat} {A : Nat → Prop} (F : Fx2 X L scr p s m args c own cc nL R c0 s0 B ea D cA ad A) : q_icmp_gt X L (xcF scr) ea B (JW2 p l e R s m args below meth c nL c0 s0 Q D cA ad A L ea) := by
  obtain ⟨hx, hb, hml, hown, hts, hK, had, hE, hL, htab, hkL, hkI, hcl, hcw2, hbR, hA0, hD2, hD3⟩ := F
  intro b pc q lp st M x y off tgt hb0 h1 h2 h3 h4 h5 k
  have hb0 := Nat.le_of_ble_eq_true hb0
  have hdg := htab _ (lk_mem h1)
  subst h2
  intro H locs ls hP hS hl
  exact lv_icmp_gt hx hb hdg h3 (fun z => k.1 ((of_lt h5 h4).mp z) H locs ls hP hS hl) (fun z => k.2 (fun e => z ((of_lt h5 h4).mpr e)) H locs ls hP hS hl)
set_option maxHeartbeats 1000000 in
theorem z_icmp_le {X : Sx2} {L : Nat} {scr : Int → Int} {p : Program} {l : Launch} {e : Env} {R : Room} {s : State} {m : MethodId} {args : Array Value} {below : List Frame} {meth : Method} {c : Code} {own : String} {cc : ByteArray} {nL c0 s0 B : Nat} {ea : Bool} {Q : State → Prop} {D : va_G} {cA : Nat → ClassId} {ad : Nat → Nat} {A : Nat → Prop} (F : Fx2 X L scr p s m args c own cc nL R c0 s0 B ea D cA ad A) : q_icmp_le X L (xcF scr) ea B (JW2 p l e R s m args below meth c nL c0 s0 Q D cA ad A L ea) := by
  obtain ⟨hx, hb, hml, hown, hts, hK, had, hE, hL, htab, hkL, hkI, hcl, hcw2, hbR, hA0, hD2, hD3⟩ := F
  intro b pc q lp st M x y off tgt hb0 h1 h2 h3 h4 h5 k
  have hb0 := Nat.le_of_ble_eq_true hb0
  have hdg := htab _ (lk_mem h1)
  subst h2
  intro H locs ls hP hS hl
  exact lv_icmp_le hx hb hdg h3 (fun z => k.1 ((of_le h4 h5).mp z) H locs ls hP hS hl) (fun z => k.2 (fun e => z ((of_le h4 h5).mpr e)) H locs ls hP hS hl)
set_option maxHeartbeats 1000000 in
theorem z_ldc {X : Sx2} {L : Nat} {scr : Int → Int} {p : Program} {l : Launch} {e : Env} {R : Room} {s : State} {m : MethodId} {args : Array Value} {below : List Frame} {meth : Method} {c : Code} {own : String} {cc : ByteArray} {nL c0 s0 B : Nat} {ea : Bool} {Q : State → Prop} {D : va_G} {cA : Nat → ClassId} {ad : Nat → Nat} {A : Nat → Prop} (F : Fx2 X L scr p s m args c own cc nL R c0 s0 B ea D cA ad A) : q_ldc X L (xcF scr) ea B (JW2 p l e R s m args below meth c nL c0 s0 Q D cA ad A L ea) := by
  obtain ⟨hx, hb, hml, hown, hts, hK, had, hE, hL, htab, hkL, hkI, hcl, hcw2, hbR, hA0, hD2, hD3⟩ := F
  intro b pc q lp st M i v hb0 h1 h2 h3 k
  have hb0 := Nat.le_of_ble_eq_true hb0
  have hdg := htab _ (lk_mem h1)
  subst h2
  intro H locs ls hP hS hl
  exact lv_ldc hx hb hown (hts _ (hkI _ (lk_mem h3))) hdg (k H locs ls hP hS hl)
set_option maxHeartbeats 1000000 in
theorem z_ladd {X : Sx2} {L : Nat} {scr : Int → Int} {p : Program} {l : Launch} {e : Env} {R : Room} {s : State} {m : MethodId} {args : Array Value} {below : List Frame} {meth : Method} {c : Code} {own : String} {cc : ByteArray} {nL c0 s0 B : Nat} {ea : Bool} {Q : State → Prop} {D : va_G} {cA : Nat → ClassId} {ad : Nat → Nat} {A : Nat → Prop} (F : Fx2 X L scr p s m args c own cc nL R c0 s0 B ea D cA ad A) : q_ladd X L (xcF scr) ea B (JW2 p l e R s m args below meth c nL c0 s0 Q D cA ad A L ea) := by
  obtain ⟨hx, hb, hml, hown, hts, hK, had, hE, hL, htab, hkL, hkI, hcl, hcw2, hbR, hA0, hD2, hD3⟩ := F
  intro b pc q lp st M x y hb0 h1 h2 k
  have hb0 := Nat.le_of_ble_eq_true hb0
  have hdg := htab _ (lk_mem h1)
  subst h2
  intro H locs ls hP hS hl
  exact lv_ladd hx hb hdg (by have := k H locs ls hP hS hl; simp only [List.map_cons, vp] at this; rw [Int64.ofInt_add] at this; exact this)
set_option maxHeartbeats 1000000 in
theorem z_lmul {X : Sx2} {L : Nat} {scr : Int → Int} {p : Program} {l : Launch} {e : Env} {R : Room} {s : State} {m : MethodId} {args : Array Value} {below : List Frame} {meth : Method} {c : Code} {own : String} {cc : ByteArray} {nL c0 s0 B : Nat} {ea : Bool} {Q : State → Prop} {D : va_G} {cA : Nat → ClassId} {ad : Nat → Nat} {A : Nat → Prop} (F : Fx2 X L scr p s m args c own cc nL R c0 s0 B ea D cA ad A) : q_lmul X L (xcF scr) ea B (JW2 p l e R s m args below meth c nL c0 s0 Q D cA ad A L ea) := by
  obtain ⟨hx, hb, hml, hown, hts, hK, had, hE, hL, htab, hkL, hkI, hcl, hcw2, hbR, hA0, hD2, hD3⟩ := F
  intro b pc q lp st M x y hb0 h1 h2 k
  have hb0 := Nat.le_of_ble_eq_true hb0
  have hdg := htab _ (lk_mem h1)
  subst h2
  intro H locs ls hP hS hl
  exact lv_lmul hx hb hdg (by have := k H locs ls hP hS hl; simp only [List.map_cons, vp] at this; rw [Int64.ofInt_mul] at this; exact this)
set_option maxHeartbeats 1000000 in
theorem z_i2l {X : Sx2} {L : Nat} {scr : Int → Int} {p : Program} {l : Launch} {e : Env} {R : Room} {s : State} {m : MethodId} {args : Array Value} {below : List Frame} {meth : Method} {c : Code} {own : String} {cc : ByteArray} {nL c0 s0 B : Nat} {ea : Bool} {Q : State → Prop} {D : va_G} {cA : Nat → ClassId} {ad : Nat → Nat} {A : Nat → Prop} (F : Fx2 X L scr p s m args c own cc nL R c0 s0 B ea D cA ad A) : q_i2l X L (xcF scr) ea B (JW2 p l e R s m args below meth c nL c0 s0 Q D cA ad A L ea) := by
  obtain ⟨hx, hb, hml, hown, hts, hK, had, hE, hL, htab, hkL, hkI, hcl, hcw2, hbR, hA0, hD2, hD3⟩ := F
  intro b pc q lp st M x hb0 h1 h2 k
  have hb0 := Nat.le_of_ble_eq_true hb0
  have hdg := htab _ (lk_mem h1)
  subst h2
  intro H locs ls hP hS hl
  exact lv_i2l hx hb hdg (by have := of_i2l (x := i32 x) (inr_toInt _); unfold i32 at this; rw [of_i32] at this; exact this) (k H locs ls hP hS hl)
set_option maxHeartbeats 1000000 in
theorem z_lcmpS {X : Sx2} {L : Nat} {scr : Int → Int} {p : Program} {l : Launch} {e : Env} {R : Room} {s : State} {m : MethodId} {args : Array Value} {below : List Frame} {meth : Method} {c : Code} {own : String} {cc : ByteArray} {nL c0 s0 B : Nat} {ea : Bool} {Q : State → Prop} {D : va_G} {cA : Nat → ClassId} {ad : Nat → Nat} {A : Nat → Prop} (F : Fx2 X L scr p s m args c own cc nL R c0 s0 B ea D cA ad A) : q_lcmpS X L (xcF scr) ea B (JW2 p l e R s m args below meth c nL c0 s0 Q D cA ad A L ea) := by
  obtain ⟨hx, hb, hml, hown, hts, hK, had, hE, hL, htab, hkL, hkI, hcl, hcw2, hbR, hA0, hD2, hD3⟩ := F
  intro b pc q lp st M x hb0 h1 h2 k
  have hb0 := Nat.le_of_ble_eq_true hb0
  have hdg := htab _ (lk_mem h1)
  subst h2
  intro H locs ls hP hS hl
  exact W.lcmp hx hb hdg (by have := k H locs ls hP hS hl; simp only [List.map_cons, vp] at this; rw [show lg_cmp (Int64.ofInt x) (Int64.ofInt x) = Int32.ofInt 0 from lg_cmp_s _]; exact this)
set_option maxHeartbeats 1000000 in
theorem z_neS {X : Sx2} {L : Nat} {scr : Int → Int} {p : Program} {l : Launch} {e : Env} {R : Room} {s : State} {m : MethodId} {args : Array Value} {below : List Frame} {meth : Method} {c : Code} {own : String} {cc : ByteArray} {nL c0 s0 B : Nat} {ea : Bool} {Q : State → Prop} {D : va_G} {cA : Nat → ClassId} {ad : Nat → Nat} {A : Nat → Prop} (F : Fx2 X L scr p s m args c own cc nL R c0 s0 B ea D cA ad A) : q_neS X L (xcF scr) ea B (JW2 p l e R s m args below meth c nL c0 s0 Q D cA ad A L ea) := by
  obtain ⟨hx, hb, hml, hown, hts, hK, had, hE, hL, htab, hkL, hkI, hcl, hcw2, hbR, hA0, hD2, hD3⟩ := F
  intro b pc q lp st M x off tgt hb0 h1 h2 h3 k
  have hb0 := Nat.le_of_ble_eq_true hb0
  have hdg := htab _ (lk_mem h1)
  subst h2
  intro H locs ls hP hS hl
  exact lv_icmp_ne hx hb hdg h3 (fun z => absurd rfl z) (fun _ => k H locs ls hP hS hl)
set_option maxHeartbeats 1000000 in
theorem z_iald2 {X : Sx2} {L : Nat} {scr : Int → Int} {p : Program} {l : Launch} {e : Env} {R : Room} {s : State} {m : MethodId} {args : Array Value} {below : List Frame} {meth : Method} {c : Code} {own : String} {cc : ByteArray} {nL c0 s0 B : Nat} {ea : Bool} {Q : State → Prop} {D : va_G} {cA : Nat → ClassId} {ad : Nat → Nat} {A : Nat → Prop} (F : Fx2 X L scr p s m args c own cc nL R c0 s0 B ea D cA ad A) : q_iald2 X L (xcF scr) ea B (JW2 p l e R s m args below meth c nL c0 s0 Q D cA ad A L ea) := by
  obtain ⟨hx, hb, hml, hown, hts, hK, had, hE, hL, htab, hkL, hkI, hcl, hcw2, hbR, hA0, hD2, hD3⟩ := F
  intro b pc q lp st M i v r hb0 h1 h2 h3 h4 h5 h6 k
  have hb0 := Nat.le_of_ble_eq_true hb0
  have hdg := htab _ (lk_mem h1)
  subst h2
  intro H locs ls hP hS hl
  subst h6
  subst h3
  have he := wl2_ar (ad := ad) (cA := cA) (L := L) (M := M) h4
  obtain ⟨g1, g2⟩ := of_in h5.1 h5.2 (aN_lt r)
  exact va_iald hx hb hK hP _ 0 he (tysL_at cA (by decide)) g1 hdg (by rw [g2]; show W p l e R s m args below meth c H locs _ _ Q (F0 m (pc + 1) ls (.int (Int32.ofInt (M r (i.toNat : Int))) :: _)); rw [Int.toNat_of_nonneg h5.1]; exact k H locs ls hP hS hl)
set_option maxHeartbeats 1000000 in
theorem z_iast2 {X : Sx2} {L : Nat} {scr : Int → Int} {p : Program} {l : Launch} {e : Env} {R : Room} {s : State} {m : MethodId} {args : Array Value} {below : List Frame} {meth : Method} {c : Code} {own : String} {cc : ByteArray} {nL c0 s0 B : Nat} {ea : Bool} {Q : State → Prop} {D : va_G} {cA : Nat → ClassId} {ad : Nat → Nat} {A : Nat → Prop} (F : Fx2 X L scr p s m args c own cc nL R c0 s0 B ea D cA ad A) : q_iast2 X L (xcF scr) ea B (JW2 p l e R s m args below meth c nL c0 s0 Q D cA ad A L ea) := by
  obtain ⟨hx, hb, hml, hown, hts, hK, had, hE, hL, htab, hkL, hkI, hcl, hcw2, hbR, hA0, hD2, hD3⟩ := F
  intro b pc q lp st M x i r M2 hb0 h1 h2 h3 h4 h5 h6 k
  have hb0 := Nat.le_of_ble_eq_true hb0
  have hdg := htab _ (lk_mem h1)
  subst h2
  intro H locs ls hP hS hl
  subst h6
  subst h3
  have he := wl2_ar (ad := ad) (cA := cA) (L := L) (M := M) h4
  obtain ⟨g1, g2⟩ := of_in h5.1 h5.2 (aN_lt r)
  refine va_iast hx hb hK hP (hD2 M) hS _ 0 he (tysL_at cA (by decide)) g1 hdg (fun H1 locs1 hP1 hD1 hS1 => ?_)
  rw [g2, upd_of, wl2_set h4 (Int.toNat_of_nonneg h5.1)] at hP1
  exact k H1 locs1 ls hP1 hS1 hl
set_option maxHeartbeats 1000000 in
theorem z_callC {X : Sx2} {L : Nat} {scr : Int → Int} {p : Program} {l : Launch} {e : Env} {R : Room} {s : State} {m : MethodId} {args : Array Value} {below : List Frame} {meth : Method} {c : Code} {own : String} {cc : ByteArray} {nL c0 s0 B : Nat} {ea : Bool} {Q : State → Prop} {D : va_G} {cA : Nat → ClassId} {ad : Nat → Nat} {A : Nat → Prop} (F : Fx2 X L scr p s m args c own cc nL R c0 s0 B ea D cA ad A) : q_callC X L (xcF scr) ea B (JW2 p l e R s m args below meth c nL c0 s0 Q D cA ad A L ea) := by
  obtain ⟨hx, hb, hml, hown, hts, hK, had, hE, hL, htab, hkL, hkI, hcl, hcw2, hbR, hA0, hD2, hD3⟩ := F
  intro b pc q lp st M i C as hb0 h1 h2 h3 h4 h5 h6 k
  have hb0 := Nat.le_of_ble_eq_true hb0
  have hdg := htab _ (lk_mem h1)
  subst h2
  intro H locs ls hP hS hl
  obtain ⟨y, bb, mL, ret, d, C1, hM, hans, hlen1, hder, e1, e2, e3, e4, e5, k1, k2, k3⟩ := hcl _ (lk_mem h3)
  obtain ⟨M0, hM0, hpre, hpost⟩ := hder _ _ h5
  have hP0 : va_P D clsL (wld ad cA L M0) H := by rw [wld_co hM0]; exact wl2_P hP
  have hM := hM l D cA ad (adS ad) L scr (wR 3 :: as) M0 hL (adOK_S had) (h4.trans hlen1.symm) hpre
  unfold QcC at hM
  rw [if_pos hans] at hM
  have hpl : (parseMethodDescriptor y.desc).map (fun d => d.parameters.length) = some as.length := by
    rw [e4.2.2, hlen1, ← h4]
    rfl
  have hES : Ext ad L (xcF scr) (adS ad) s s.heap := Ext_nar hE (adS_A had)
  have he := wld_at (ad := ad) (cA := cA) (L := L) (M := M0) (r := 3) (by unfold rOK; omega)
  have hrv := va_recv hK hP0 (clsL_at (ci := 6) (by decide)) he
  rw [show (RC 6, TC 6, nfC 6).1 = y.cls from k3.symm] at hrv
  have hcw := cwV (own := own) (index := i) (R := R) (rm := rmD d) (mc := 0) (ms := 0) (ws := .code y bb mL ret :: GT) (ws' := GT) (bytes := bb) (maxL := mL) (ret := ret) (Ts := GT) (args := args) (s := s) (n := as.length) hts (goodV e1 e2 e3 k1 k2) rfl rfl rfl ⟨rfl, e4.1, e4.2.1, hpl⟩ e5
  have hHn : ∀ a : Nat, a < s.heap.size → ¬ A a → H[a]? = s.heap[a]? := hS.2.1
  rw [List.map_append, List.map_reverse]
  refine va_calli (va_runV (As := as.map (vp ad)) (rest := st.map (vp ad)) ⟨hx, hb, hml, hown, hts⟩ hM hcw ⟨fun a U g mk q => ⟨q.1, q.2.1, va_K.moved (u := U) (U := U.calling g mk a) (Vm.Alike.refl U.vm) q.2.2.1, Ext.moved (u := U) (U := U.calling g mk a) (Vm.Alike.refl U.vm) q.2.2.2⟩, hrv, fun U hU hW => ⟨rfl, by rw [hU]; exact hP0, va_K.moved hW.alike hK, by rw [hU]; exact Ext_nar ((Ext.moved hW.alike hE).kept hHn) (adS_A had)⟩⟩ rfl (by simp) hl.size rfl (lv_room (stk8 ad st h6)) hdg ⟨Nat.le_trans (hbR b hb0).1 (Nat.le_refl _), Nat.le_trans (hbR b hb0).2 (Nat.le_refl _)⟩) hS (fun q _ z => adS_A had q z) (fun q z => adS_A had q z) ?_
  rintro r0 M' t H1 locs1 ht hvm ⟨x, rfl, hp⟩ hB hz hk hS1
  obtain ⟨M2, w1, w2, w3⟩ := hpost x M' hp
  refine k x M2 w3 H1 locs1 ls ?_ hS1 hl
  refine wl2_J hP hD3 (by rw [wld_co w1]; exact ht ▸ hB) hk w2
set_option maxHeartbeats 1000000 in
theorem z_callLI {X : Sx2} {L : Nat} {scr : Int → Int} {p : Program} {l : Launch} {e : Env} {R : Room} {s : State} {m : MethodId} {args : Array Value} {below : List Frame} {meth : Method} {c : Code} {own : String} {cc : ByteArray} {nL c0 s0 B : Nat} {ea : Bool} {Q : State → Prop} {D : va_G} {cA : Nat → ClassId} {ad : Nat → Nat} {A : Nat → Prop} (F : Fx2 X L scr p s m args c own cc nL R c0 s0 B ea D cA ad A) : q_callLI X L (xcF scr) ea B (JW2 p l e R s m args below meth c nL c0 s0 Q D cA ad A L ea) := by
  obtain ⟨hx, hb, hml, hown, hts, hK, had, hE, hL, htab, hkL, hkI, hcl, hcw2, hbR, hA0, hD2, hD3⟩ := F
  intro b pc q lp st M i C as hb0 h1 h2 h3 h4 h5 h6 h7 h8 h9 k
  have hb0 := Nat.le_of_ble_eq_true hb0
  have hdg := htab _ (lk_mem h1)
  subst h2
  intro H locs ls hP hS hl
  obtain ⟨y, bb, mL, ret, d, hM, e1, e2, e3, e4, e5, e6⟩ := hcw2 _ (lk_mem h3)
  subst h8
  have hP0 : va_P D clsL (wld ad cA L M) H := wl2_P hP
  have hM := hM l D cA ad A L scr as M hL had h4 h6
  unfold Qc2 at hM
  rw [if_neg (by rw [h5]; decide)] at hM
  have hpl : (parseMethodDescriptor y.desc).map (fun d => d.parameters.length) = some as.length := by rw [e4.2.2, ← h4]
  have hcw : CallB R s args own i y bb mL ret (.code y bb mL ret :: GT) (rm2 d C.2.2.1) (3 * C.2.2.1) (10 * C.2.2.1) as.length ∧ (Cond.static y).before args s = true := by
    refine ⟨callB_of (Ts := GT) (ws' := GT) as.length hts (fun w hw => ?_) rfl rfl rfl (hts _ e2) (hts _ e1) ⟨e4.1, e4.2.1, hpl⟩ e5, hts _ e6⟩
    rcases List.mem_cons.mp hw with rfl | hw
    · exact goodGT e3
    · exact goodGT hw
  have hHn : ∀ a : Nat, a < s.heap.size → ¬ A a → H[a]? = s.heap[a]? := hS.2.1
  have hbb := hbR (b + C.2.2.1) h9
  rw [List.map_append, List.map_reverse]
  refine va_calli (va_runS (As := as.map (vp ad)) (rest := st.map (vp ad)) ⟨hx, hb, hml, hown, hts⟩ hM hcw ⟨fun a U g mk q => ⟨q.1, q.2.1, va_K.moved (u := U) (U := U.calling g mk a) (Vm.Alike.refl U.vm) q.2.2.1, Ext.moved (u := U) (U := U.calling g mk a) (Vm.Alike.refl U.vm) q.2.2.2.1, q.2.2.2.2⟩, fun U hU hW => ⟨rfl, by rw [hU]; exact hP0, va_K.moved hW.alike hK, by rw [hU]; exact (Ext.moved hW.alike hE).kept hHn, by rw [hU]; exact fun q z => hA0 q (Nat.le_trans hS.1 z)⟩⟩ rfl (by simp) hl.size rfl (lv_room (stk8 ad st h7)) hdg ⟨by have := hbb.1; show c0 + 3 * b + 3 * C.2.2.1 ≤ R.cells; omega, by have := hbb.2; show s0 + 10 * b + 10 * C.2.2.1 ≤ R.slots; omega⟩) hS (fun _ _ z => z) (fun _ z => z) ?_
  rintro r0 M' t H1 locs1 ht hvm ⟨x, rfl, hp⟩ hB hz hk hS1
  rw [show c0 + 3 * b + 3 * C.2.2.1 = c0 + 3 * (b + C.2.2.1) by omega, show s0 + 10 * b + 10 * C.2.2.1 = s0 + 10 * (b + C.2.2.1) by omega]
  exact k x M' hp H1 locs1 ls (by rw [← ht]; exact wl2_f hB) hS1 hl
set_option maxHeartbeats 1000000 in
theorem z_callLL {X : Sx2} {L : Nat} {scr : Int → Int} {p : Program} {l : Launch} {e : Env} {R : Room} {s : State} {m : MethodId} {args : Array Value} {below : List Frame} {meth : Method} {c : Code} {own : String} {cc : ByteArray} {nL c0 s0 B : Nat} {ea : Bool} {Q : State → Prop} {D : va_G} {cA : Nat → ClassId} {ad : Nat → Nat} {A : Nat → Prop} (F : Fx2 X L scr p s m args c own cc nL R c0 s0 B ea D cA ad A) : q_callLL X L (xcF scr) ea B (JW2 p l e R s m args below meth c nL c0 s0 Q D cA ad A L ea) := by
  obtain ⟨hx, hb, hml, hown, hts, hK, had, hE, hL, htab, hkL, hkI, hcl, hcw2, hbR, hA0, hD2, hD3⟩ := F
  intro b pc q lp st M i C as hb0 h1 h2 h3 h4 h5 h6 h7 h8 h9 k
  have hb0 := Nat.le_of_ble_eq_true hb0
  have hdg := htab _ (lk_mem h1)
  subst h2
  intro H locs ls hP hS hl
  obtain ⟨y, bb, mL, ret, d, hM, e1, e2, e3, e4, e5, e6⟩ := hcw2 _ (lk_mem h3)
  subst h8
  have hP0 : va_P D clsL (wld ad cA L M) H := wl2_P hP
  have hM := hM l D cA ad A L scr as M hL had h4 h6
  unfold Qc2 at hM
  rw [if_pos h5] at hM
  have hpl : (parseMethodDescriptor y.desc).map (fun d => d.parameters.length) = some as.length := by rw [e4.2.2, ← h4]
  have hcw : CallB R s args own i y bb mL ret (.code y bb mL ret :: GT) (rm2 d C.2.2.1) (3 * C.2.2.1) (10 * C.2.2.1) as.length ∧ (Cond.static y).before args s = true := by
    refine ⟨callB_of (Ts := GT) (ws' := GT) as.length hts (fun w hw => ?_) rfl rfl rfl (hts _ e2) (hts _ e1) ⟨e4.1, e4.2.1, hpl⟩ e5, hts _ e6⟩
    rcases List.mem_cons.mp hw with rfl | hw
    · exact goodGT e3
    · exact goodGT hw
  have hHn : ∀ a : Nat, a < s.heap.size → ¬ A a → H[a]? = s.heap[a]? := hS.2.1
  have hbb := hbR (b + C.2.2.1) h9
  rw [List.map_append, List.map_reverse]
  refine va_calll (va_runS (As := as.map (vp ad)) (rest := st.map (vp ad)) ⟨hx, hb, hml, hown, hts⟩ hM hcw ⟨fun a U g mk q => ⟨q.1, q.2.1, va_K.moved (u := U) (U := U.calling g mk a) (Vm.Alike.refl U.vm) q.2.2.1, Ext.moved (u := U) (U := U.calling g mk a) (Vm.Alike.refl U.vm) q.2.2.2.1, q.2.2.2.2⟩, fun U hU hW => ⟨rfl, by rw [hU]; exact hP0, va_K.moved hW.alike hK, by rw [hU]; exact (Ext.moved hW.alike hE).kept hHn, by rw [hU]; exact fun q z => hA0 q (Nat.le_trans hS.1 z)⟩⟩ rfl (by simp) hl.size rfl (lv_room (stk8 ad st h7)) hdg ⟨by have := hbb.1; show c0 + 3 * b + 3 * C.2.2.1 ≤ R.cells; omega, by have := hbb.2; show s0 + 10 * b + 10 * C.2.2.1 ≤ R.slots; omega⟩) hS (fun _ _ z => z) (fun _ z => z) ?_
  rintro r0 M' t H1 locs1 ht hvm ⟨x, rfl, hp⟩ hB hz hk hS1
  rw [show c0 + 3 * b + 3 * C.2.2.1 = c0 + 3 * (b + C.2.2.1) by omega, show s0 + 10 * b + 10 * C.2.2.1 = s0 + 10 * (b + C.2.2.1) by omega]
  exact k x M' hp H1 locs1 ls (by rw [← ht]; exact wl2_f hB) hS1 hl
theorem sound2 {X : Sx2} {L : Nat} {scr : Int → Int} {p : Program} {l : Launch} {e : Env} {R : Room} {s : State} {m : MethodId} {args : Array Value} {below : List Frame} {meth : Method} {c : Code} {own : String} {cc : ByteArray} {nL c0 s0 B : Nat} {ea : Bool} {Q : State → Prop} {D : va_G} {cA : Nat → ClassId} {ad : Nat → Nat} {A : Nat → Prop} {Qp : Int → Mem → Prop} (F : Fx2 X L scr p s m args c own cc nL R c0 s0 B ea D cA ad A) (hr : q_ret X B Qp (JW2 p l e R s m args below meth c nL c0 s0 Q D cA ad A L ea)) (hv : q_lret X B Qp (JW2 p l e R s m args below meth c nL c0 s0 Q D cA ad A L ea)) : Clo2 X L (xcF scr) ea B Qp (JW2 p l e R s m args below meth c nL c0 s0 Q D cA ad A L ea) :=
  ⟨z_iconst F, z_bipush F, z_sipush F, z_ldc2 F, z_iload_n F, z_lload_n F, z_iload F, z_lload F, z_aload_n F, z_aload F, z_istore_n F, z_istore F, z_astore_n F, z_astore F, z_lstore_n F, z_lstore F, z_iinc F, z_iadd F, z_isub F, z_imul F, z_ineg F, z_idiv F, z_irem F, z_ishl F, z_ishr F, z_iand F, z_ior F, z_dup2 F, z_goto F, z_tblIn F, z_tblOut F, z_ialdX F, z_alenX F, z_eqS F, z_if_eq F, z_if_ne F, z_if_lt F, z_if_ge F, z_if_gt F, z_if_le F, z_icmp_eq F, z_icmp_ne F, z_icmp_lt F, z_icmp_ge F, z_icmp_gt F, z_icmp_le F, z_ldc F, z_ladd F, z_lmul F, z_i2l F, z_lcmpS F, z_neS F, z_iald2 F, z_iast2 F, z_callC F, z_callLI F, z_callLL F, hr, hv⟩
theorem mt2_of {y : MethodName} {b : ByteArray} {mL : Nat} {ret : Option FieldType} {d : Nat} {C : Ct2} (X : Sx2) (hy : plainName y.cls = true) (hfin : (ret = some .int ∧ X.2.2.2.2.2 = 1 ∧ C.2.1 = false) ∨ (ret = some .boolean ∧ X.2.2.2.2.2 = 2 ∧ C.2.1 = false) ∨ (ret = some .long ∧ X.2.2.2.2.2 = 3 ∧ C.2.1 = true))
    (htab : X.1.all (fun e => decide (decode b e.1 = .ok e.2)) = true) (hkL : ∀ e ∈ X.2.1, Cond.constantLong y.cls e.1 (Int64.ofInt e.2) ∈ GT) (hkI : ∀ e ∈ X.2.2.1, Cond.constant y.cls e.1 (Int32.ofInt e.2) ∈ GT) (hcl : ∀ e ∈ X.2.2.2.1, Cl2 y.cls (rm2 d C.2.2.1) e) (hcw : ∀ e ∈ X.2.2.2.2.1, Cw2 y.cls (rm2 d C.2.2.1) e)
    (hlen : ∀ as M, as.length = C.1 → C.2.2.2.1 as M → (iniL as).length ≤ mL)
    (hrun : ∀ (L : Nat) (scr : Int → Int) (as : List PV) (M : Mem), L < 2147483648 → as.length = C.1 → C.2.2.2.1 as M → Run2 X L (xcF scr) false C.2.2.1 (fun x M' => C.2.2.2.2 as M x M') 0 0 (iniN as mL) [] M) : Mt2 y b mL ret d C := by
  intro l D cA ad A L scr as M hL had has hpre
  refine Met.ofW (cc := b) (maxL := mL) (ret := ret) hy rfl ?_
  intro p e s m args below meth c s₁ B hml hv
  obtain ⟨rfl, hP, hK, hE, hA0⟩ := hv
  have hts0 := atoms_spec (ws := .code y b mL ret :: GT) B.pre
  have hts : ∀ w ∈ GT, w.before (as.map (vp ad)).toArray s = true := fun w hw => hts0 w (List.mem_cons_of_mem _ hw)
  have hown : s.vm.findClass y.cls = some m.cls := findClass_of_methodNamed B.named
  have hlocks := B.notSynchronized
  have hx := B.exec
  have hb := B.bytes
  have hr := B.returns
  have F : Fx2 X L scr p s m (as.map (vp ad)).toArray c y.cls b mL (headSpec (.code y b mL ret :: GT) (rm2 d C.2.2.1)).room 0 0 C.2.2.1 false D cA ad A :=
    ⟨hx, hb, hml, hown, hts, hK, had, hE, hL, fun z hz => by simpa using List.all_eq_true.mp htab z hz, hkL, hkI, hcl, hcw, fun b0 hb0 => ⟨by show 0 + 3 * b0 ≤ 3 * C.2.2.1; omega, by show 0 + 10 * b0 ≤ 10 * C.2.2.1; omega⟩, hA0, fun M => by unfold wl2; rw [if_neg (by decide), List.append_nil]; exact had.D cA L M, fun z => by cases z⟩
  rw [lg_entry_eq]
  refine hrun L scr as M hL has hpre _ (sound2 (below := below) (meth := meth) (e := e) (l := l) (Q := MQ below (Qc2 C as M D cA ad A L) (as.map (vp ad)).toArray s (3 * C.2.2.1) (10 * C.2.2.1) A) F ?_ ?_) s.heap [] _ (wl2_f hP) va_S.rf (LR.ini ad as (hlen as M has hpre))
  · intro b0 pc lp M' x hb0 h1 h2 hq H locs ls hP' hS hl
    have hb0 := Nat.le_of_ble_eq_true hb0
    have hdg := F.2.2.2.2.2.2.2.2.2.1 _ (lk_mem h1)
    have hpost : C.2.1 = false → ∀ t : State, t.heap = H → s.WarmedH t.vm → Qc2 C as M D cA ad A L (as.map (vp ad)).toArray s (.returned (some (.int (Int32.ofInt x)))) t := by
      intro hans t ht hW
      unfold Qc2
      rw [if_neg (by rw [hans]; decide)]
      exact ⟨⟨_, M', rfl, ⟨x, rfl, hq⟩, by show va_P D clsL (wld ad cA L M') t.heap; rw [ht]; exact wl2_P hP'⟩, hS.F ht⟩
    refine W.widen (k := 3 * C.2.2.1) (n := 10 * C.2.2.1) (by omega) (by omega) ?_
    rcases hfin with ⟨hret, hz, hans⟩ | ⟨hret, hz, hans⟩ | ⟨hret, hz, hans⟩
    · subst hret
      exact W.iret (v := Int32.ofInt x) hx hb hr (hpost hans) hS.2.2 hdg
    · subst hret
      refine W.zret (v := Int32.ofInt x) (ty := .boolean) hx hb hr ?_ (hpost hans) hS.2.2 hdg
      rcases h2 with h2 | ⟨-, rfl | rfl⟩
      · rw [hz] at h2
        cases h2
      · decide +kernel
      · decide +kernel
    · rw [hz] at h2
      rcases h2 with h2 | ⟨h2, -⟩ <;> cases h2
  · intro b0 pc lp M' x hb0 h1 hz' hq H locs ls hP' hS hl
    have hb0 := Nat.le_of_ble_eq_true hb0
    have hdg := F.2.2.2.2.2.2.2.2.2.1 _ (lk_mem h1)
    refine W.widen (k := 3 * C.2.2.1) (n := 10 * C.2.2.1) (by omega) (by omega) ?_
    rcases hfin with ⟨hret, hz, hans⟩ | ⟨hret, hz, hans⟩ | ⟨hret, hz, hans⟩
    · rw [hz] at hz'
      cases hz'
    · rw [hz] at hz'
      cases hz'
    · subst hret
      refine W.lret (v := Int64.ofInt x) hx hb hr (fun t ht hW => ?_) hS.2.2 hdg
      unfold Qc2
      rw [if_pos hans]
      exact ⟨⟨_, M', rfl, ⟨x, rfl, hq⟩, by show va_P D clsL (wld ad cA L M') t.heap; rw [ht]; exact wl2_P hP'⟩, hS.F ht⟩
