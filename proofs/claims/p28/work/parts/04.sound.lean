
/-! SOUNDNESS: the machine's own judgement is closed under the clauses -/
def Fx (X : Sx) (L : Nat) (scr : Int → Int) (p : Program) (s : State) (m : MethodId) (args : Array Value) (c : Code) (own : String) (cc : ByteArray) (nL : Nat) (R : Room) (ca sl : Nat) (D : va_G) (cA : Nat → ClassId) (ad : Nat → Nat) (A : Nat → Prop) : Prop :=
  p.tables.exec = Jvm.exec ∧ c.code = cc ∧ c.maxLocals = nL ∧ s.vm.findClass own = some m.cls ∧ (∀ w ∈ GT, w.before args s = true) ∧ va_K D clsL (tysL cA) s ∧ adOK ad A ∧ Ext ad L (xcF scr) A s s.heap ∧ L < 2147483648 ∧
  (∀ e ∈ X.1, decode cc e.1 = .ok e.2) ∧ (∀ e ∈ X.2.1, FdOK own e) ∧ (∀ e ∈ X.2.2.1, Cond.constantLong own e.1 (Int64.ofInt e.2) ∈ GT) ∧ (∀ e ∈ X.2.2.2.1, Cond.constant own e.1 (Int32.ofInt e.2) ∈ GT) ∧ (∀ e ∈ X.2.2.2.2.1, SgOK own e) ∧ (∀ e ∈ X.2.2.2.2.2.1, NtOK own e) ∧ (∀ e ∈ X.2.2.2.2.2.2.1, ClOK own R e) ∧
  1 ≤ R.frames ∧ 60 ≤ R.locals ∧ ca ≤ R.cells ∧ sl ≤ R.slots
def JW (p : Program) (l : Launch) (e : Env) (R : Room) (s : State) (m : MethodId) (args : Array Value) (below : List Frame) (meth : Method) (c : Code) (nL ca sl : Nat) (Q : State → Prop) (D : va_G) (cA : Nat → ClassId) (ad : Nat → Nat) (A : Nat → Prop) (L : Nat) (pc : Nat) (lp st : List PV) (M : Mem) : Prop :=
  ∀ (H : Heap) (locs : List Loc) (ls : Array Slot), va_P D clsL (wld ad cA L M) H → va_S A s.heap H locs → LR ad nL lp ls → W p l e R s m args below meth c H locs ca sl Q (F0 m pc ls (st.map (vp ad)))

set_option maxHeartbeats 1000000 in
theorem s_iconst {X : Sx} {L : Nat} {scr : Int → Int} {p : Program} {l : Launch} {e : Env} {R : Room} {s : State} {m : MethodId} {args : Array Value} {below : List Frame} {meth : Method} {c : Code} {own : String} {cc : ByteArray} {nL ca sl : Nat} {Q : State → Prop} {D : va_G} {cA : Nat → ClassId} {ad : Nat → Nat} {A : Nat → Prop} (F : Fx X L scr p s m args c own cc nL R ca sl D cA ad A) : k_iconst X L (xcF scr) (JW p l e R s m args below meth c nL ca sl Q D cA ad A L) := by
  obtain ⟨hx, hb, hml, hown, hts, hK, had, hE, hL, htab, hfd, hkL, hkI, hsg, hnt, hcl, hR1, hR2, hRc, hRs⟩ := F
  intro pc q lp st M v h1 h2 k
  have hdg := htab _ (lk_mem h1)
  subst h2
  intro H locs ls hP hS hl
  exact lv_iconst hx hb hdg rfl (k H locs ls hP hS hl)
set_option maxHeartbeats 1000000 in
theorem s_bipush {X : Sx} {L : Nat} {scr : Int → Int} {p : Program} {l : Launch} {e : Env} {R : Room} {s : State} {m : MethodId} {args : Array Value} {below : List Frame} {meth : Method} {c : Code} {own : String} {cc : ByteArray} {nL ca sl : Nat} {Q : State → Prop} {D : va_G} {cA : Nat → ClassId} {ad : Nat → Nat} {A : Nat → Prop} (F : Fx X L scr p s m args c own cc nL R ca sl D cA ad A) : k_bipush X L (xcF scr) (JW p l e R s m args below meth c nL ca sl Q D cA ad A L) := by
  obtain ⟨hx, hb, hml, hown, hts, hK, had, hE, hL, htab, hfd, hkL, hkI, hsg, hnt, hcl, hR1, hR2, hRc, hRs⟩ := F
  intro pc q lp st M v h1 h2 h3 k
  have hdg := htab _ (lk_mem h1)
  subst h2
  intro H locs ls hP hS hl
  exact lv_bipush hx hb hdg (of_i8 h3) (k H locs ls hP hS hl)
set_option maxHeartbeats 1000000 in
theorem s_sipush {X : Sx} {L : Nat} {scr : Int → Int} {p : Program} {l : Launch} {e : Env} {R : Room} {s : State} {m : MethodId} {args : Array Value} {below : List Frame} {meth : Method} {c : Code} {own : String} {cc : ByteArray} {nL ca sl : Nat} {Q : State → Prop} {D : va_G} {cA : Nat → ClassId} {ad : Nat → Nat} {A : Nat → Prop} (F : Fx X L scr p s m args c own cc nL R ca sl D cA ad A) : k_sipush X L (xcF scr) (JW p l e R s m args below meth c nL ca sl Q D cA ad A L) := by
  obtain ⟨hx, hb, hml, hown, hts, hK, had, hE, hL, htab, hfd, hkL, hkI, hsg, hnt, hcl, hR1, hR2, hRc, hRs⟩ := F
  intro pc q lp st M v h1 h2 h3 k
  have hdg := htab _ (lk_mem h1)
  subst h2
  intro H locs ls hP hS hl
  exact lv_sipush hx hb hdg (of_i16 h3) (k H locs ls hP hS hl)
set_option maxHeartbeats 1000000 in
theorem s_lconst {X : Sx} {L : Nat} {scr : Int → Int} {p : Program} {l : Launch} {e : Env} {R : Room} {s : State} {m : MethodId} {args : Array Value} {below : List Frame} {meth : Method} {c : Code} {own : String} {cc : ByteArray} {nL ca sl : Nat} {Q : State → Prop} {D : va_G} {cA : Nat → ClassId} {ad : Nat → Nat} {A : Nat → Prop} (F : Fx X L scr p s m args c own cc nL R ca sl D cA ad A) : k_lconst X L (xcF scr) (JW p l e R s m args below meth c nL ca sl Q D cA ad A L) := by
  obtain ⟨hx, hb, hml, hown, hts, hK, had, hE, hL, htab, hfd, hkL, hkI, hsg, hnt, hcl, hR1, hR2, hRc, hRs⟩ := F
  intro pc q lp st M n v h1 h2 h3 k
  have hdg := htab _ (lk_mem h1)
  subst h2
  intro H locs ls hP hS hl
  subst h3
  exact lv_lconst hx hb hdg (of_nL _) (k H locs ls hP hS hl)
set_option maxHeartbeats 1000000 in
theorem s_ldc2 {X : Sx} {L : Nat} {scr : Int → Int} {p : Program} {l : Launch} {e : Env} {R : Room} {s : State} {m : MethodId} {args : Array Value} {below : List Frame} {meth : Method} {c : Code} {own : String} {cc : ByteArray} {nL ca sl : Nat} {Q : State → Prop} {D : va_G} {cA : Nat → ClassId} {ad : Nat → Nat} {A : Nat → Prop} (F : Fx X L scr p s m args c own cc nL R ca sl D cA ad A) : k_ldc2 X L (xcF scr) (JW p l e R s m args below meth c nL ca sl Q D cA ad A L) := by
  obtain ⟨hx, hb, hml, hown, hts, hK, had, hE, hL, htab, hfd, hkL, hkI, hsg, hnt, hcl, hR1, hR2, hRc, hRs⟩ := F
  intro pc q lp st M i v h1 h2 h3 k
  have hdg := htab _ (lk_mem h1)
  subst h2
  intro H locs ls hP hS hl
  exact lv_ldc2 hx hb hown (hts _ (hkL _ (lk_mem h3))) hdg (k H locs ls hP hS hl)
set_option maxHeartbeats 1000000 in
theorem s_ldcw {X : Sx} {L : Nat} {scr : Int → Int} {p : Program} {l : Launch} {e : Env} {R : Room} {s : State} {m : MethodId} {args : Array Value} {below : List Frame} {meth : Method} {c : Code} {own : String} {cc : ByteArray} {nL ca sl : Nat} {Q : State → Prop} {D : va_G} {cA : Nat → ClassId} {ad : Nat → Nat} {A : Nat → Prop} (F : Fx X L scr p s m args c own cc nL R ca sl D cA ad A) : k_ldcw X L (xcF scr) (JW p l e R s m args below meth c nL ca sl Q D cA ad A L) := by
  obtain ⟨hx, hb, hml, hown, hts, hK, had, hE, hL, htab, hfd, hkL, hkI, hsg, hnt, hcl, hR1, hR2, hRc, hRs⟩ := F
  intro pc q lp st M i v h1 h2 h3 k
  have hdg := htab _ (lk_mem h1)
  subst h2
  intro H locs ls hP hS hl
  exact lv_ldcw hx hb hown (hts _ (hkI _ (lk_mem h3))) hdg (k H locs ls hP hS hl)
set_option maxHeartbeats 1000000 in
theorem s_iload_n {X : Sx} {L : Nat} {scr : Int → Int} {p : Program} {l : Launch} {e : Env} {R : Room} {s : State} {m : MethodId} {args : Array Value} {below : List Frame} {meth : Method} {c : Code} {own : String} {cc : ByteArray} {nL ca sl : Nat} {Q : State → Prop} {D : va_G} {cA : Nat → ClassId} {ad : Nat → Nat} {A : Nat → Prop} (F : Fx X L scr p s m args c own cc nL R ca sl D cA ad A) : k_iload_n X L (xcF scr) (JW p l e R s m args below meth c nL ca sl Q D cA ad A L) := by
  obtain ⟨hx, hb, hml, hown, hts, hK, had, hE, hL, htab, hfd, hkL, hkI, hsg, hnt, hcl, hR1, hR2, hRc, hRs⟩ := F
  intro pc q lp st M k4 i x h1 h2 h3 h4 k
  have hdg := htab _ (lk_mem h1)
  subst h2
  intro H locs ls hP hS hl
  exact lv_iload_n hx hb hdg h3 (hl.get h4) (k H locs ls hP hS hl)
set_option maxHeartbeats 1000000 in
theorem s_iload {X : Sx} {L : Nat} {scr : Int → Int} {p : Program} {l : Launch} {e : Env} {R : Room} {s : State} {m : MethodId} {args : Array Value} {below : List Frame} {meth : Method} {c : Code} {own : String} {cc : ByteArray} {nL ca sl : Nat} {Q : State → Prop} {D : va_G} {cA : Nat → ClassId} {ad : Nat → Nat} {A : Nat → Prop} (F : Fx X L scr p s m args c own cc nL R ca sl D cA ad A) : k_iload X L (xcF scr) (JW p l e R s m args below meth c nL ca sl Q D cA ad A L) := by
  obtain ⟨hx, hb, hml, hown, hts, hK, had, hE, hL, htab, hfd, hkL, hkI, hsg, hnt, hcl, hR1, hR2, hRc, hRs⟩ := F
  intro pc q lp st M i x h1 h2 h3 k
  have hdg := htab _ (lk_mem h1)
  subst h2
  intro H locs ls hP hS hl
  exact lv_iload hx hb hdg (hl.get h3) (k H locs ls hP hS hl)
set_option maxHeartbeats 1000000 in
theorem s_lload_n {X : Sx} {L : Nat} {scr : Int → Int} {p : Program} {l : Launch} {e : Env} {R : Room} {s : State} {m : MethodId} {args : Array Value} {below : List Frame} {meth : Method} {c : Code} {own : String} {cc : ByteArray} {nL ca sl : Nat} {Q : State → Prop} {D : va_G} {cA : Nat → ClassId} {ad : Nat → Nat} {A : Nat → Prop} (F : Fx X L scr p s m args c own cc nL R ca sl D cA ad A) : k_lload_n X L (xcF scr) (JW p l e R s m args below meth c nL ca sl Q D cA ad A L) := by
  obtain ⟨hx, hb, hml, hown, hts, hK, had, hE, hL, htab, hfd, hkL, hkI, hsg, hnt, hcl, hR1, hR2, hRc, hRs⟩ := F
  intro pc q lp st M k4 i x h1 h2 h3 h4 k
  have hdg := htab _ (lk_mem h1)
  subst h2
  intro H locs ls hP hS hl
  exact lv_lload_n hx hb hdg h3 (hl.get h4) (k H locs ls hP hS hl)
set_option maxHeartbeats 1000000 in
theorem s_lload {X : Sx} {L : Nat} {scr : Int → Int} {p : Program} {l : Launch} {e : Env} {R : Room} {s : State} {m : MethodId} {args : Array Value} {below : List Frame} {meth : Method} {c : Code} {own : String} {cc : ByteArray} {nL ca sl : Nat} {Q : State → Prop} {D : va_G} {cA : Nat → ClassId} {ad : Nat → Nat} {A : Nat → Prop} (F : Fx X L scr p s m args c own cc nL R ca sl D cA ad A) : k_lload X L (xcF scr) (JW p l e R s m args below meth c nL ca sl Q D cA ad A L) := by
  obtain ⟨hx, hb, hml, hown, hts, hK, had, hE, hL, htab, hfd, hkL, hkI, hsg, hnt, hcl, hR1, hR2, hRc, hRs⟩ := F
  intro pc q lp st M i x h1 h2 h3 k
  have hdg := htab _ (lk_mem h1)
  subst h2
  intro H locs ls hP hS hl
  exact lv_lload hx hb hdg (hl.get h3) (k H locs ls hP hS hl)
set_option maxHeartbeats 1000000 in
theorem s_aload_n {X : Sx} {L : Nat} {scr : Int → Int} {p : Program} {l : Launch} {e : Env} {R : Room} {s : State} {m : MethodId} {args : Array Value} {below : List Frame} {meth : Method} {c : Code} {own : String} {cc : ByteArray} {nL ca sl : Nat} {Q : State → Prop} {D : va_G} {cA : Nat → ClassId} {ad : Nat → Nat} {A : Nat → Prop} (F : Fx X L scr p s m args c own cc nL R ca sl D cA ad A) : k_aload_n X L (xcF scr) (JW p l e R s m args below meth c nL ca sl Q D cA ad A L) := by
  obtain ⟨hx, hb, hml, hown, hts, hK, had, hE, hL, htab, hfd, hkL, hkI, hsg, hnt, hcl, hR1, hR2, hRc, hRs⟩ := F
  intro pc q lp st M k4 i r h1 h2 h3 h4 k
  have hdg := htab _ (lk_mem h1)
  subst h2
  intro H locs ls hP hS hl
  exact lv_aload_n hx hb hdg h3 (hl.get h4) (k H locs ls hP hS hl)
set_option maxHeartbeats 1000000 in
theorem s_aload {X : Sx} {L : Nat} {scr : Int → Int} {p : Program} {l : Launch} {e : Env} {R : Room} {s : State} {m : MethodId} {args : Array Value} {below : List Frame} {meth : Method} {c : Code} {own : String} {cc : ByteArray} {nL ca sl : Nat} {Q : State → Prop} {D : va_G} {cA : Nat → ClassId} {ad : Nat → Nat} {A : Nat → Prop} (F : Fx X L scr p s m args c own cc nL R ca sl D cA ad A) : k_aload X L (xcF scr) (JW p l e R s m args below meth c nL ca sl Q D cA ad A L) := by
  obtain ⟨hx, hb, hml, hown, hts, hK, had, hE, hL, htab, hfd, hkL, hkI, hsg, hnt, hcl, hR1, hR2, hRc, hRs⟩ := F
  intro pc q lp st M i r h1 h2 h3 k
  have hdg := htab _ (lk_mem h1)
  subst h2
  intro H locs ls hP hS hl
  exact lv_aload hx hb hdg (hl.get h3) (k H locs ls hP hS hl)
set_option maxHeartbeats 1000000 in
theorem s_istore_n {X : Sx} {L : Nat} {scr : Int → Int} {p : Program} {l : Launch} {e : Env} {R : Room} {s : State} {m : MethodId} {args : Array Value} {below : List Frame} {meth : Method} {c : Code} {own : String} {cc : ByteArray} {nL ca sl : Nat} {Q : State → Prop} {D : va_G} {cA : Nat → ClassId} {ad : Nat → Nat} {A : Nat → Prop} (F : Fx X L scr p s m args c own cc nL R ca sl D cA ad A) : k_istore_n X L (xcF scr) (JW p l e R s m args below meth c nL ca sl Q D cA ad A L) := by
  obtain ⟨hx, hb, hml, hown, hts, hK, had, hE, hL, htab, hfd, hkL, hkI, hsg, hnt, hcl, hR1, hR2, hRc, hRs⟩ := F
  intro pc q lp st M k4 i x h1 h2 h3 h4 k
  have hdg := htab _ (lk_mem h1)
  subst h2
  intro H locs ls hP hS hl
  obtain ⟨l0, g1, g2, g3⟩ := hl
  have hi := okS_lt h4
  exact lv_istore_n hx hb hdg h3 g1 (g2 ▸ hi) rfl (fun ls' h' => k H locs ls' hP hS (LR.put g2 g3 h4 h'))
set_option maxHeartbeats 1000000 in
theorem s_istore {X : Sx} {L : Nat} {scr : Int → Int} {p : Program} {l : Launch} {e : Env} {R : Room} {s : State} {m : MethodId} {args : Array Value} {below : List Frame} {meth : Method} {c : Code} {own : String} {cc : ByteArray} {nL ca sl : Nat} {Q : State → Prop} {D : va_G} {cA : Nat → ClassId} {ad : Nat → Nat} {A : Nat → Prop} (F : Fx X L scr p s m args c own cc nL R ca sl D cA ad A) : k_istore X L (xcF scr) (JW p l e R s m args below meth c nL ca sl Q D cA ad A L) := by
  obtain ⟨hx, hb, hml, hown, hts, hK, had, hE, hL, htab, hfd, hkL, hkI, hsg, hnt, hcl, hR1, hR2, hRc, hRs⟩ := F
  intro pc q lp st M i x h1 h2 h3 k
  have hdg := htab _ (lk_mem h1)
  subst h2
  intro H locs ls hP hS hl
  obtain ⟨l0, g1, g2, g3⟩ := hl
  have hi := okS_lt h3
  exact lv_istore hx hb hdg g1 (g2 ▸ hi) rfl (fun ls' h' => k H locs ls' hP hS (LR.put g2 g3 h3 h'))
set_option maxHeartbeats 1000000 in
theorem s_astore_n {X : Sx} {L : Nat} {scr : Int → Int} {p : Program} {l : Launch} {e : Env} {R : Room} {s : State} {m : MethodId} {args : Array Value} {below : List Frame} {meth : Method} {c : Code} {own : String} {cc : ByteArray} {nL ca sl : Nat} {Q : State → Prop} {D : va_G} {cA : Nat → ClassId} {ad : Nat → Nat} {A : Nat → Prop} (F : Fx X L scr p s m args c own cc nL R ca sl D cA ad A) : k_astore_n X L (xcF scr) (JW p l e R s m args below meth c nL ca sl Q D cA ad A L) := by
  obtain ⟨hx, hb, hml, hown, hts, hK, had, hE, hL, htab, hfd, hkL, hkI, hsg, hnt, hcl, hR1, hR2, hRc, hRs⟩ := F
  intro pc q lp st M k4 i r h1 h2 h3 h4 k
  have hdg := htab _ (lk_mem h1)
  subst h2
  intro H locs ls hP hS hl
  obtain ⟨l0, g1, g2, g3⟩ := hl
  have hi := okS_lt h4
  exact lv_astore_n hx hb hdg h3 g1 (g2 ▸ hi) rfl (fun ls' h' => k H locs ls' hP hS (LR.put g2 g3 h4 h'))
set_option maxHeartbeats 1000000 in
theorem s_astore {X : Sx} {L : Nat} {scr : Int → Int} {p : Program} {l : Launch} {e : Env} {R : Room} {s : State} {m : MethodId} {args : Array Value} {below : List Frame} {meth : Method} {c : Code} {own : String} {cc : ByteArray} {nL ca sl : Nat} {Q : State → Prop} {D : va_G} {cA : Nat → ClassId} {ad : Nat → Nat} {A : Nat → Prop} (F : Fx X L scr p s m args c own cc nL R ca sl D cA ad A) : k_astore X L (xcF scr) (JW p l e R s m args below meth c nL ca sl Q D cA ad A L) := by
  obtain ⟨hx, hb, hml, hown, hts, hK, had, hE, hL, htab, hfd, hkL, hkI, hsg, hnt, hcl, hR1, hR2, hRc, hRs⟩ := F
  intro pc q lp st M i r h1 h2 h3 k
  have hdg := htab _ (lk_mem h1)
  subst h2
  intro H locs ls hP hS hl
  obtain ⟨l0, g1, g2, g3⟩ := hl
  have hi := okS_lt h3
  exact lv_astore hx hb hdg g1 (g2 ▸ hi) rfl (fun ls' h' => k H locs ls' hP hS (LR.put g2 g3 h3 h'))
set_option maxHeartbeats 1000000 in
theorem s_lstore_n {X : Sx} {L : Nat} {scr : Int → Int} {p : Program} {l : Launch} {e : Env} {R : Room} {s : State} {m : MethodId} {args : Array Value} {below : List Frame} {meth : Method} {c : Code} {own : String} {cc : ByteArray} {nL ca sl : Nat} {Q : State → Prop} {D : va_G} {cA : Nat → ClassId} {ad : Nat → Nat} {A : Nat → Prop} (F : Fx X L scr p s m args c own cc nL R ca sl D cA ad A) : k_lstore_n X L (xcF scr) (JW p l e R s m args below meth c nL ca sl Q D cA ad A L) := by
  obtain ⟨hx, hb, hml, hown, hts, hK, had, hE, hL, htab, hfd, hkL, hkI, hsg, hnt, hcl, hR1, hR2, hRc, hRs⟩ := F
  intro pc q lp st M k4 i x h1 h2 h3 h4 h5 k
  have hdg := htab _ (lk_mem h1)
  subst h2
  intro H locs ls hP hS hl
  obtain ⟨l0, g1, g2, g3⟩ := hl
  have hi := Nat.lt_of_lt_of_eq (Nat.lt_of_lt_of_le (Nat.lt_succ_self _) (Nat.le_of_ble_eq_true h5)) g2
  exact lv_lstore_n hx hb hdg h3 g1 (Nat.lt_of_lt_of_eq (Nat.lt_of_succ_le (Nat.le_of_ble_eq_true h5)) g2) rfl (fun ls' h' => k H locs ls' hP hS (LR.put2 g2 g3 h4 h'))
set_option maxHeartbeats 1000000 in
theorem s_lstore {X : Sx} {L : Nat} {scr : Int → Int} {p : Program} {l : Launch} {e : Env} {R : Room} {s : State} {m : MethodId} {args : Array Value} {below : List Frame} {meth : Method} {c : Code} {own : String} {cc : ByteArray} {nL ca sl : Nat} {Q : State → Prop} {D : va_G} {cA : Nat → ClassId} {ad : Nat → Nat} {A : Nat → Prop} (F : Fx X L scr p s m args c own cc nL R ca sl D cA ad A) : k_lstore X L (xcF scr) (JW p l e R s m args below meth c nL ca sl Q D cA ad A L) := by
  obtain ⟨hx, hb, hml, hown, hts, hK, had, hE, hL, htab, hfd, hkL, hkI, hsg, hnt, hcl, hR1, hR2, hRc, hRs⟩ := F
  intro pc q lp st M i x h1 h2 h3 h4 k
  have hdg := htab _ (lk_mem h1)
  subst h2
  intro H locs ls hP hS hl
  obtain ⟨l0, g1, g2, g3⟩ := hl
  have hi := Nat.lt_of_lt_of_eq (Nat.lt_of_lt_of_le (Nat.lt_succ_self _) (Nat.le_of_ble_eq_true h4)) g2
  exact lv_lstore hx hb hdg g1 (Nat.lt_of_lt_of_eq (Nat.lt_of_succ_le (Nat.le_of_ble_eq_true h4)) g2) rfl (fun ls' h' => k H locs ls' hP hS (LR.put2 g2 g3 h3 h'))
set_option maxHeartbeats 1000000 in
theorem s_iinc {X : Sx} {L : Nat} {scr : Int → Int} {p : Program} {l : Launch} {e : Env} {R : Room} {s : State} {m : MethodId} {args : Array Value} {below : List Frame} {meth : Method} {c : Code} {own : String} {cc : ByteArray} {nL ca sl : Nat} {Q : State → Prop} {D : va_G} {cA : Nat → ClassId} {ad : Nat → Nat} {A : Nat → Prop} (F : Fx X L scr p s m args c own cc nL R ca sl D cA ad A) : k_iinc X L (xcF scr) (JW p l e R s m args below meth c nL ca sl Q D cA ad A L) := by
  obtain ⟨hx, hb, hml, hown, hts, hK, had, hE, hL, htab, hfd, hkL, hkI, hsg, hnt, hcl, hR1, hR2, hRc, hRs⟩ := F
  intro pc q lp st M i n x h1 h2 h3 h4 k
  have hdg := htab _ (lk_mem h1)
  subst h2
  intro H locs ls hP hS hl
  obtain ⟨l0, g1, g2, g3⟩ := hl
  have hi := okS_lt h4
  obtain ⟨k0, hk0⟩ := List.getElem?_of_mem (g3 i _ h3)
  exact lv_iinc hx hb hdg g1 hk0 (Int32.ofInt_add x n).symm (g2 ▸ hi) rfl (fun ls' h' => k H locs ls' hP hS (LR.put (w := .inl (x + n)) g2 g3 h4 h'))
set_option maxHeartbeats 1000000 in
theorem s_iadd {X : Sx} {L : Nat} {scr : Int → Int} {p : Program} {l : Launch} {e : Env} {R : Room} {s : State} {m : MethodId} {args : Array Value} {below : List Frame} {meth : Method} {c : Code} {own : String} {cc : ByteArray} {nL ca sl : Nat} {Q : State → Prop} {D : va_G} {cA : Nat → ClassId} {ad : Nat → Nat} {A : Nat → Prop} (F : Fx X L scr p s m args c own cc nL R ca sl D cA ad A) : k_iadd X L (xcF scr) (JW p l e R s m args below meth c nL ca sl Q D cA ad A L) := by
  obtain ⟨hx, hb, hml, hown, hts, hK, had, hE, hL, htab, hfd, hkL, hkI, hsg, hnt, hcl, hR1, hR2, hRc, hRs⟩ := F
  intro pc q lp st M x y h1 h2 k
  have hdg := htab _ (lk_mem h1)
  subst h2
  intro H locs ls hP hS hl
  exact lv_iadd hx hb hdg (by have := k H locs ls hP hS hl; simp only [List.map_cons, vp] at this; rw [Int32.ofInt_add] at this; exact this)
set_option maxHeartbeats 1000000 in
theorem s_isub {X : Sx} {L : Nat} {scr : Int → Int} {p : Program} {l : Launch} {e : Env} {R : Room} {s : State} {m : MethodId} {args : Array Value} {below : List Frame} {meth : Method} {c : Code} {own : String} {cc : ByteArray} {nL ca sl : Nat} {Q : State → Prop} {D : va_G} {cA : Nat → ClassId} {ad : Nat → Nat} {A : Nat → Prop} (F : Fx X L scr p s m args c own cc nL R ca sl D cA ad A) : k_isub X L (xcF scr) (JW p l e R s m args below meth c nL ca sl Q D cA ad A L) := by
  obtain ⟨hx, hb, hml, hown, hts, hK, had, hE, hL, htab, hfd, hkL, hkI, hsg, hnt, hcl, hR1, hR2, hRc, hRs⟩ := F
  intro pc q lp st M x y h1 h2 k
  have hdg := htab _ (lk_mem h1)
  subst h2
  intro H locs ls hP hS hl
  exact lv_isub hx hb hdg (by have := k H locs ls hP hS hl; simp only [List.map_cons, vp] at this; rw [Int32.ofInt_sub] at this; exact this)
set_option maxHeartbeats 1000000 in
theorem s_imul {X : Sx} {L : Nat} {scr : Int → Int} {p : Program} {l : Launch} {e : Env} {R : Room} {s : State} {m : MethodId} {args : Array Value} {below : List Frame} {meth : Method} {c : Code} {own : String} {cc : ByteArray} {nL ca sl : Nat} {Q : State → Prop} {D : va_G} {cA : Nat → ClassId} {ad : Nat → Nat} {A : Nat → Prop} (F : Fx X L scr p s m args c own cc nL R ca sl D cA ad A) : k_imul X L (xcF scr) (JW p l e R s m args below meth c nL ca sl Q D cA ad A L) := by
  obtain ⟨hx, hb, hml, hown, hts, hK, had, hE, hL, htab, hfd, hkL, hkI, hsg, hnt, hcl, hR1, hR2, hRc, hRs⟩ := F
  intro pc q lp st M x y h1 h2 k
  have hdg := htab _ (lk_mem h1)
  subst h2
  intro H locs ls hP hS hl
  exact lv_imul hx hb hdg (by have := k H locs ls hP hS hl; simp only [List.map_cons, vp] at this; rw [Int32.ofInt_mul] at this; exact this)
set_option maxHeartbeats 1000000 in
theorem s_idiv {X : Sx} {L : Nat} {scr : Int → Int} {p : Program} {l : Launch} {e : Env} {R : Room} {s : State} {m : MethodId} {args : Array Value} {below : List Frame} {meth : Method} {c : Code} {own : String} {cc : ByteArray} {nL ca sl : Nat} {Q : State → Prop} {D : va_G} {cA : Nat → ClassId} {ad : Nat → Nat} {A : Nat → Prop} (F : Fx X L scr p s m args c own cc nL R ca sl D cA ad A) : k_idiv X L (xcF scr) (JW p l e R s m args below meth c nL ca sl Q D cA ad A L) := by
  obtain ⟨hx, hb, hml, hown, hts, hK, had, hE, hL, htab, hfd, hkL, hkI, hsg, hnt, hcl, hR1, hR2, hRc, hRs⟩ := F
  intro pc q lp st M x y h1 h2 h3 k
  have hdg := htab _ (lk_mem h1)
  subst h2
  intro H locs ls hP hS hl
  exact lv_idiv hx hb hdg (fun e => h3.2 ((of_eq h3.1 ⟨by decide, by decide⟩).mp e)) (by have := k H locs ls hP hS hl; simp only [List.map_cons, vp, i32div, of_i32] at this; exact this)
set_option maxHeartbeats 1000000 in
theorem s_irem {X : Sx} {L : Nat} {scr : Int → Int} {p : Program} {l : Launch} {e : Env} {R : Room} {s : State} {m : MethodId} {args : Array Value} {below : List Frame} {meth : Method} {c : Code} {own : String} {cc : ByteArray} {nL ca sl : Nat} {Q : State → Prop} {D : va_G} {cA : Nat → ClassId} {ad : Nat → Nat} {A : Nat → Prop} (F : Fx X L scr p s m args c own cc nL R ca sl D cA ad A) : k_irem X L (xcF scr) (JW p l e R s m args below meth c nL ca sl Q D cA ad A L) := by
  obtain ⟨hx, hb, hml, hown, hts, hK, had, hE, hL, htab, hfd, hkL, hkI, hsg, hnt, hcl, hR1, hR2, hRc, hRs⟩ := F
  intro pc q lp st M x y h1 h2 h3 k
  have hdg := htab _ (lk_mem h1)
  subst h2
  intro H locs ls hP hS hl
  exact lv_irem hx hb hdg (fun e => h3.2 ((of_eq h3.1 ⟨by decide, by decide⟩).mp e)) (by have := k H locs ls hP hS hl; simp only [List.map_cons, vp, i32rem, of_i32] at this; exact this)
set_option maxHeartbeats 1000000 in
theorem s_ineg {X : Sx} {L : Nat} {scr : Int → Int} {p : Program} {l : Launch} {e : Env} {R : Room} {s : State} {m : MethodId} {args : Array Value} {below : List Frame} {meth : Method} {c : Code} {own : String} {cc : ByteArray} {nL ca sl : Nat} {Q : State → Prop} {D : va_G} {cA : Nat → ClassId} {ad : Nat → Nat} {A : Nat → Prop} (F : Fx X L scr p s m args c own cc nL R ca sl D cA ad A) : k_ineg X L (xcF scr) (JW p l e R s m args below meth c nL ca sl Q D cA ad A L) := by
  obtain ⟨hx, hb, hml, hown, hts, hK, had, hE, hL, htab, hfd, hkL, hkI, hsg, hnt, hcl, hR1, hR2, hRc, hRs⟩ := F
  intro pc q lp st M x h1 h2 k
  have hdg := htab _ (lk_mem h1)
  subst h2
  intro H locs ls hP hS hl
  exact lv_ineg hx hb hdg (by have := k H locs ls hP hS hl; simp only [List.map_cons, vp] at this; rw [Int32.ofInt_neg] at this; exact this)
set_option maxHeartbeats 1000000 in
theorem s_ishl {X : Sx} {L : Nat} {scr : Int → Int} {p : Program} {l : Launch} {e : Env} {R : Room} {s : State} {m : MethodId} {args : Array Value} {below : List Frame} {meth : Method} {c : Code} {own : String} {cc : ByteArray} {nL ca sl : Nat} {Q : State → Prop} {D : va_G} {cA : Nat → ClassId} {ad : Nat → Nat} {A : Nat → Prop} (F : Fx X L scr p s m args c own cc nL R ca sl D cA ad A) : k_ishl X L (xcF scr) (JW p l e R s m args below meth c nL ca sl Q D cA ad A L) := by
  obtain ⟨hx, hb, hml, hown, hts, hK, had, hE, hL, htab, hfd, hkL, hkI, hsg, hnt, hcl, hR1, hR2, hRc, hRs⟩ := F
  intro pc q lp st M x y h1 h2 k
  have hdg := htab _ (lk_mem h1)
  subst h2
  intro H locs ls hP hS hl
  exact lv_ishl hx hb hdg  (by have := k H locs ls hP hS hl; simp only [List.map_cons, vp, xishl, of_i32] at this; exact this)
set_option maxHeartbeats 1000000 in
theorem s_ishr {X : Sx} {L : Nat} {scr : Int → Int} {p : Program} {l : Launch} {e : Env} {R : Room} {s : State} {m : MethodId} {args : Array Value} {below : List Frame} {meth : Method} {c : Code} {own : String} {cc : ByteArray} {nL ca sl : Nat} {Q : State → Prop} {D : va_G} {cA : Nat → ClassId} {ad : Nat → Nat} {A : Nat → Prop} (F : Fx X L scr p s m args c own cc nL R ca sl D cA ad A) : k_ishr X L (xcF scr) (JW p l e R s m args below meth c nL ca sl Q D cA ad A L) := by
  obtain ⟨hx, hb, hml, hown, hts, hK, had, hE, hL, htab, hfd, hkL, hkI, hsg, hnt, hcl, hR1, hR2, hRc, hRs⟩ := F
  intro pc q lp st M x y h1 h2 k
  have hdg := htab _ (lk_mem h1)
  subst h2
  intro H locs ls hP hS hl
  exact lv_ishr hx hb hdg  (by have := k H locs ls hP hS hl; simp only [List.map_cons, vp, xishr, of_i32] at this; exact this)
set_option maxHeartbeats 1000000 in
theorem s_iand {X : Sx} {L : Nat} {scr : Int → Int} {p : Program} {l : Launch} {e : Env} {R : Room} {s : State} {m : MethodId} {args : Array Value} {below : List Frame} {meth : Method} {c : Code} {own : String} {cc : ByteArray} {nL ca sl : Nat} {Q : State → Prop} {D : va_G} {cA : Nat → ClassId} {ad : Nat → Nat} {A : Nat → Prop} (F : Fx X L scr p s m args c own cc nL R ca sl D cA ad A) : k_iand X L (xcF scr) (JW p l e R s m args below meth c nL ca sl Q D cA ad A L) := by
  obtain ⟨hx, hb, hml, hown, hts, hK, had, hE, hL, htab, hfd, hkL, hkI, hsg, hnt, hcl, hR1, hR2, hRc, hRs⟩ := F
  intro pc q lp st M x y h1 h2 k
  have hdg := htab _ (lk_mem h1)
  subst h2
  intro H locs ls hP hS hl
  exact lv_iand hx hb hdg  (by have := k H locs ls hP hS hl; simp only [List.map_cons, vp, xiand, of_i32] at this; exact this)
set_option maxHeartbeats 1000000 in
theorem s_ior {X : Sx} {L : Nat} {scr : Int → Int} {p : Program} {l : Launch} {e : Env} {R : Room} {s : State} {m : MethodId} {args : Array Value} {below : List Frame} {meth : Method} {c : Code} {own : String} {cc : ByteArray} {nL ca sl : Nat} {Q : State → Prop} {D : va_G} {cA : Nat → ClassId} {ad : Nat → Nat} {A : Nat → Prop} (F : Fx X L scr p s m args c own cc nL R ca sl D cA ad A) : k_ior X L (xcF scr) (JW p l e R s m args below meth c nL ca sl Q D cA ad A L) := by
  obtain ⟨hx, hb, hml, hown, hts, hK, had, hE, hL, htab, hfd, hkL, hkI, hsg, hnt, hcl, hR1, hR2, hRc, hRs⟩ := F
  intro pc q lp st M x y h1 h2 k
  have hdg := htab _ (lk_mem h1)
  subst h2
  intro H locs ls hP hS hl
  exact lv_ior hx hb hdg  (by have := k H locs ls hP hS hl; simp only [List.map_cons, vp, xior, of_i32] at this; exact this)
set_option maxHeartbeats 1000000 in
theorem s_ixor {X : Sx} {L : Nat} {scr : Int → Int} {p : Program} {l : Launch} {e : Env} {R : Room} {s : State} {m : MethodId} {args : Array Value} {below : List Frame} {meth : Method} {c : Code} {own : String} {cc : ByteArray} {nL ca sl : Nat} {Q : State → Prop} {D : va_G} {cA : Nat → ClassId} {ad : Nat → Nat} {A : Nat → Prop} (F : Fx X L scr p s m args c own cc nL R ca sl D cA ad A) : k_ixor X L (xcF scr) (JW p l e R s m args below meth c nL ca sl Q D cA ad A L) := by
  obtain ⟨hx, hb, hml, hown, hts, hK, had, hE, hL, htab, hfd, hkL, hkI, hsg, hnt, hcl, hR1, hR2, hRc, hRs⟩ := F
  intro pc q lp st M x y h1 h2 k
  have hdg := htab _ (lk_mem h1)
  subst h2
  intro H locs ls hP hS hl
  exact lv_ixor hx hb hdg  (by have := k H locs ls hP hS hl; simp only [List.map_cons, vp, xixor, of_i32] at this; exact this)
set_option maxHeartbeats 1000000 in
theorem s_iushr {X : Sx} {L : Nat} {scr : Int → Int} {p : Program} {l : Launch} {e : Env} {R : Room} {s : State} {m : MethodId} {args : Array Value} {below : List Frame} {meth : Method} {c : Code} {own : String} {cc : ByteArray} {nL ca sl : Nat} {Q : State → Prop} {D : va_G} {cA : Nat → ClassId} {ad : Nat → Nat} {A : Nat → Prop} (F : Fx X L scr p s m args c own cc nL R ca sl D cA ad A) : k_iushr X L (xcF scr) (JW p l e R s m args below meth c nL ca sl Q D cA ad A L) := by
  obtain ⟨hx, hb, hml, hown, hts, hK, had, hE, hL, htab, hfd, hkL, hkI, hsg, hnt, hcl, hR1, hR2, hRc, hRs⟩ := F
  intro pc q lp st M x y h1 h2 k
  have hdg := htab _ (lk_mem h1)
  subst h2
  intro H locs ls hP hS hl
  exact lv_iushr hx hb hdg rfl (by have := k H locs ls hP hS hl; simp only [List.map_cons, vp, xiushr, of_i32] at this; exact this)
set_option maxHeartbeats 1000000 in
theorem s_land {X : Sx} {L : Nat} {scr : Int → Int} {p : Program} {l : Launch} {e : Env} {R : Room} {s : State} {m : MethodId} {args : Array Value} {below : List Frame} {meth : Method} {c : Code} {own : String} {cc : ByteArray} {nL ca sl : Nat} {Q : State → Prop} {D : va_G} {cA : Nat → ClassId} {ad : Nat → Nat} {A : Nat → Prop} (F : Fx X L scr p s m args c own cc nL R ca sl D cA ad A) : k_land X L (xcF scr) (JW p l e R s m args below meth c nL ca sl Q D cA ad A L) := by
  obtain ⟨hx, hb, hml, hown, hts, hK, had, hE, hL, htab, hfd, hkL, hkI, hsg, hnt, hcl, hR1, hR2, hRc, hRs⟩ := F
  intro pc q lp st M x y h1 h2 k
  have hdg := htab _ (lk_mem h1)
  subst h2
  intro H locs ls hP hS hl
  exact lv_land hx hb hdg (by have := k H locs ls hP hS hl; simp only [List.map_cons, vp, xland, of_i64] at this; exact this)
set_option maxHeartbeats 1000000 in
theorem s_lor {X : Sx} {L : Nat} {scr : Int → Int} {p : Program} {l : Launch} {e : Env} {R : Room} {s : State} {m : MethodId} {args : Array Value} {below : List Frame} {meth : Method} {c : Code} {own : String} {cc : ByteArray} {nL ca sl : Nat} {Q : State → Prop} {D : va_G} {cA : Nat → ClassId} {ad : Nat → Nat} {A : Nat → Prop} (F : Fx X L scr p s m args c own cc nL R ca sl D cA ad A) : k_lor X L (xcF scr) (JW p l e R s m args below meth c nL ca sl Q D cA ad A L) := by
  obtain ⟨hx, hb, hml, hown, hts, hK, had, hE, hL, htab, hfd, hkL, hkI, hsg, hnt, hcl, hR1, hR2, hRc, hRs⟩ := F
  intro pc q lp st M x y h1 h2 k
  have hdg := htab _ (lk_mem h1)
  subst h2
  intro H locs ls hP hS hl
  exact lv_lor hx hb hdg (by have := k H locs ls hP hS hl; simp only [List.map_cons, vp, xlor, of_i64] at this; exact this)
set_option maxHeartbeats 1000000 in
theorem s_lushr {X : Sx} {L : Nat} {scr : Int → Int} {p : Program} {l : Launch} {e : Env} {R : Room} {s : State} {m : MethodId} {args : Array Value} {below : List Frame} {meth : Method} {c : Code} {own : String} {cc : ByteArray} {nL ca sl : Nat} {Q : State → Prop} {D : va_G} {cA : Nat → ClassId} {ad : Nat → Nat} {A : Nat → Prop} (F : Fx X L scr p s m args c own cc nL R ca sl D cA ad A) : k_lushr X L (xcF scr) (JW p l e R s m args below meth c nL ca sl Q D cA ad A L) := by
  obtain ⟨hx, hb, hml, hown, hts, hK, had, hE, hL, htab, hfd, hkL, hkI, hsg, hnt, hcl, hR1, hR2, hRc, hRs⟩ := F
  intro pc q lp st M x y h1 h2 k
  have hdg := htab _ (lk_mem h1)
  subst h2
  intro H locs ls hP hS hl
  exact lv_lushr hx hb hdg rfl (by have := k H locs ls hP hS hl; simp only [List.map_cons, vp, xlushr, of_i64] at this; exact this)
set_option maxHeartbeats 1000000 in
theorem s_lshl {X : Sx} {L : Nat} {scr : Int → Int} {p : Program} {l : Launch} {e : Env} {R : Room} {s : State} {m : MethodId} {args : Array Value} {below : List Frame} {meth : Method} {c : Code} {own : String} {cc : ByteArray} {nL ca sl : Nat} {Q : State → Prop} {D : va_G} {cA : Nat → ClassId} {ad : Nat → Nat} {A : Nat → Prop} (F : Fx X L scr p s m args c own cc nL R ca sl D cA ad A) : k_lshl X L (xcF scr) (JW p l e R s m args below meth c nL ca sl Q D cA ad A L) := by
  obtain ⟨hx, hb, hml, hown, hts, hK, had, hE, hL, htab, hfd, hkL, hkI, hsg, hnt, hcl, hR1, hR2, hRc, hRs⟩ := F
  intro pc q lp st M x y h1 h2 k
  have hdg := htab _ (lk_mem h1)
  subst h2
  intro H locs ls hP hS hl
  exact lv_lshl hx hb hdg rfl (by have := k H locs ls hP hS hl; simp only [List.map_cons, vp, xlshl, of_i64] at this; exact this)
set_option maxHeartbeats 1000000 in
theorem s_i2l {X : Sx} {L : Nat} {scr : Int → Int} {p : Program} {l : Launch} {e : Env} {R : Room} {s : State} {m : MethodId} {args : Array Value} {below : List Frame} {meth : Method} {c : Code} {own : String} {cc : ByteArray} {nL ca sl : Nat} {Q : State → Prop} {D : va_G} {cA : Nat → ClassId} {ad : Nat → Nat} {A : Nat → Prop} (F : Fx X L scr p s m args c own cc nL R ca sl D cA ad A) : k_i2l X L (xcF scr) (JW p l e R s m args below meth c nL ca sl Q D cA ad A L) := by
  obtain ⟨hx, hb, hml, hown, hts, hK, had, hE, hL, htab, hfd, hkL, hkI, hsg, hnt, hcl, hR1, hR2, hRc, hRs⟩ := F
  intro pc q lp st M x h1 h2 h3 k
  have hdg := htab _ (lk_mem h1)
  subst h2
  intro H locs ls hP hS hl
  exact lv_i2l hx hb hdg (of_i2l h3) (k H locs ls hP hS hl)
set_option maxHeartbeats 1000000 in
theorem s_l2i {X : Sx} {L : Nat} {scr : Int → Int} {p : Program} {l : Launch} {e : Env} {R : Room} {s : State} {m : MethodId} {args : Array Value} {below : List Frame} {meth : Method} {c : Code} {own : String} {cc : ByteArray} {nL ca sl : Nat} {Q : State → Prop} {D : va_G} {cA : Nat → ClassId} {ad : Nat → Nat} {A : Nat → Prop} (F : Fx X L scr p s m args c own cc nL R ca sl D cA ad A) : k_l2i X L (xcF scr) (JW p l e R s m args below meth c nL ca sl Q D cA ad A L) := by
  obtain ⟨hx, hb, hml, hown, hts, hK, had, hE, hL, htab, hfd, hkL, hkI, hsg, hnt, hcl, hR1, hR2, hRc, hRs⟩ := F
  intro pc q lp st M x h1 h2 h3 k
  have hdg := htab _ (lk_mem h1)
  subst h2
  intro H locs ls hP hS hl
  exact lv_l2i hx hb hdg (of_l2i h3) (k H locs ls hP hS hl)
set_option maxHeartbeats 1000000 in
theorem s_i2c {X : Sx} {L : Nat} {scr : Int → Int} {p : Program} {l : Launch} {e : Env} {R : Room} {s : State} {m : MethodId} {args : Array Value} {below : List Frame} {meth : Method} {c : Code} {own : String} {cc : ByteArray} {nL ca sl : Nat} {Q : State → Prop} {D : va_G} {cA : Nat → ClassId} {ad : Nat → Nat} {A : Nat → Prop} (F : Fx X L scr p s m args c own cc nL R ca sl D cA ad A) : k_i2c X L (xcF scr) (JW p l e R s m args below meth c nL ca sl Q D cA ad A L) := by
  obtain ⟨hx, hb, hml, hown, hts, hK, had, hE, hL, htab, hfd, hkL, hkI, hsg, hnt, hcl, hR1, hR2, hRc, hRs⟩ := F
  intro pc q lp st M x h1 h2 h3 k
  have hdg := htab _ (lk_mem h1)
  subst h2
  intro H locs ls hP hS hl
  exact lv_i2c hx hb hdg (of_i2c h3) (k H locs ls hP hS hl)
set_option maxHeartbeats 1000000 in
theorem s_lcmp {X : Sx} {L : Nat} {scr : Int → Int} {p : Program} {l : Launch} {e : Env} {R : Room} {s : State} {m : MethodId} {args : Array Value} {below : List Frame} {meth : Method} {c : Code} {own : String} {cc : ByteArray} {nL ca sl : Nat} {Q : State → Prop} {D : va_G} {cA : Nat → ClassId} {ad : Nat → Nat} {A : Nat → Prop} (F : Fx X L scr p s m args c own cc nL R ca sl D cA ad A) : k_lcmp X L (xcF scr) (JW p l e R s m args below meth c nL ca sl Q D cA ad A L) := by
  obtain ⟨hx, hb, hml, hown, hts, hK, had, hE, hL, htab, hfd, hkL, hkI, hsg, hnt, hcl, hR1, hR2, hRc, hRs⟩ := F
  intro pc q lp st M x y h1 h2 h3 h4 k
  have hdg := htab _ (lk_mem h1)
  subst h2
  intro H locs ls hP hS hl
  exact W.lcmp hx hb hdg (by have := k H locs ls hP hS hl; simp only [List.map_cons, vp] at this; rw [of_lcmp h3 h4]; exact this)
set_option maxHeartbeats 1000000 in
theorem s_dup {X : Sx} {L : Nat} {scr : Int → Int} {p : Program} {l : Launch} {e : Env} {R : Room} {s : State} {m : MethodId} {args : Array Value} {below : List Frame} {meth : Method} {c : Code} {own : String} {cc : ByteArray} {nL ca sl : Nat} {Q : State → Prop} {D : va_G} {cA : Nat → ClassId} {ad : Nat → Nat} {A : Nat → Prop} (F : Fx X L scr p s m args c own cc nL R ca sl D cA ad A) : k_dup X L (xcF scr) (JW p l e R s m args below meth c nL ca sl Q D cA ad A L) := by
  obtain ⟨hx, hb, hml, hown, hts, hK, had, hE, hL, htab, hfd, hkL, hkI, hsg, hnt, hcl, hR1, hR2, hRc, hRs⟩ := F
  intro pc q lp st M x h1 h2 h3 k
  have hdg := htab _ (lk_mem h1)
  subst h2
  intro H locs ls hP hS hl
  exact lv_dup hx hb hdg (cat1 ad h3) (k H locs ls hP hS hl)
set_option maxHeartbeats 1000000 in
theorem s_dup2 {X : Sx} {L : Nat} {scr : Int → Int} {p : Program} {l : Launch} {e : Env} {R : Room} {s : State} {m : MethodId} {args : Array Value} {below : List Frame} {meth : Method} {c : Code} {own : String} {cc : ByteArray} {nL ca sl : Nat} {Q : State → Prop} {D : va_G} {cA : Nat → ClassId} {ad : Nat → Nat} {A : Nat → Prop} (F : Fx X L scr p s m args c own cc nL R ca sl D cA ad A) : k_dup2 X L (xcF scr) (JW p l e R s m args below meth c nL ca sl Q D cA ad A L) := by
  obtain ⟨hx, hb, hml, hown, hts, hK, had, hE, hL, htab, hfd, hkL, hkI, hsg, hnt, hcl, hR1, hR2, hRc, hRs⟩ := F
  intro pc q lp st M x y h1 h2 h3 h4 k
  have hdg := htab _ (lk_mem h1)
  subst h2
  intro H locs ls hP hS hl
  exact lv_dup2_11 hx hb hdg (cat1 ad h4) (cat1 ad h3) (k H locs ls hP hS hl)
set_option maxHeartbeats 1000000 in
theorem s_pop {X : Sx} {L : Nat} {scr : Int → Int} {p : Program} {l : Launch} {e : Env} {R : Room} {s : State} {m : MethodId} {args : Array Value} {below : List Frame} {meth : Method} {c : Code} {own : String} {cc : ByteArray} {nL ca sl : Nat} {Q : State → Prop} {D : va_G} {cA : Nat → ClassId} {ad : Nat → Nat} {A : Nat → Prop} (F : Fx X L scr p s m args c own cc nL R ca sl D cA ad A) : k_pop X L (xcF scr) (JW p l e R s m args below meth c nL ca sl Q D cA ad A L) := by
  obtain ⟨hx, hb, hml, hown, hts, hK, had, hE, hL, htab, hfd, hkL, hkI, hsg, hnt, hcl, hR1, hR2, hRc, hRs⟩ := F
  intro pc q lp st M x h1 h2 h3 k
  have hdg := htab _ (lk_mem h1)
  subst h2
  intro H locs ls hP hS hl
  exact lv_pop hx hb hdg (cat1 ad h3) (k H locs ls hP hS hl)
set_option maxHeartbeats 1000000 in
theorem s_icmp_eq {X : Sx} {L : Nat} {scr : Int → Int} {p : Program} {l : Launch} {e : Env} {R : Room} {s : State} {m : MethodId} {args : Array Value} {below : List Frame} {meth : Method} {c : Code} {own : String} {cc : ByteArray} {nL ca sl : Nat} {Q : State → Prop} {D : va_G} {cA : Nat → ClassId} {ad : Nat → Nat} {A : Nat → Prop} (F : Fx X L scr p s m args c own cc nL R ca sl D cA ad A) : k_icmp_eq X L (xcF scr) (JW p l e R s m args below meth c nL ca sl Q D cA ad A L) := by
  obtain ⟨hx, hb, hml, hown, hts, hK, had, hE, hL, htab, hfd, hkL, hkI, hsg, hnt, hcl, hR1, hR2, hRc, hRs⟩ := F
  intro pc q lp st M x y off tgt h1 h2 h3 h4 h5 k
  have hdg := htab _ (lk_mem h1)
  subst h2
  intro H locs ls hP hS hl
  exact lv_icmp_eq hx hb hdg h3 (fun z => k.1 ((of_eq h4 h5).mp z) H locs ls hP hS hl) (fun z => k.2 (fun e => z ((of_eq h4 h5).mpr e)) H locs ls hP hS hl)
set_option maxHeartbeats 1000000 in
theorem s_if_eq {X : Sx} {L : Nat} {scr : Int → Int} {p : Program} {l : Launch} {e : Env} {R : Room} {s : State} {m : MethodId} {args : Array Value} {below : List Frame} {meth : Method} {c : Code} {own : String} {cc : ByteArray} {nL ca sl : Nat} {Q : State → Prop} {D : va_G} {cA : Nat → ClassId} {ad : Nat → Nat} {A : Nat → Prop} (F : Fx X L scr p s m args c own cc nL R ca sl D cA ad A) : k_if_eq X L (xcF scr) (JW p l e R s m args below meth c nL ca sl Q D cA ad A L) := by
  obtain ⟨hx, hb, hml, hown, hts, hK, had, hE, hL, htab, hfd, hkL, hkI, hsg, hnt, hcl, hR1, hR2, hRc, hRs⟩ := F
  intro pc q lp st M x off tgt h1 h2 h3 h4 k
  have hdg := htab _ (lk_mem h1)
  subst h2
  intro H locs ls hP hS hl
  exact lv_if_eq hx hb hdg h3 (fun z => k.1 ((of_eq h4 ⟨by decide, by decide⟩).mp z) H locs ls hP hS hl) (fun z => k.2 (fun e => z ((of_eq h4 ⟨by decide, by decide⟩).mpr e)) H locs ls hP hS hl)
set_option maxHeartbeats 1000000 in
theorem s_icmp_ne {X : Sx} {L : Nat} {scr : Int → Int} {p : Program} {l : Launch} {e : Env} {R : Room} {s : State} {m : MethodId} {args : Array Value} {below : List Frame} {meth : Method} {c : Code} {own : String} {cc : ByteArray} {nL ca sl : Nat} {Q : State → Prop} {D : va_G} {cA : Nat → ClassId} {ad : Nat → Nat} {A : Nat → Prop} (F : Fx X L scr p s m args c own cc nL R ca sl D cA ad A) : k_icmp_ne X L (xcF scr) (JW p l e R s m args below meth c nL ca sl Q D cA ad A L) := by
  obtain ⟨hx, hb, hml, hown, hts, hK, had, hE, hL, htab, hfd, hkL, hkI, hsg, hnt, hcl, hR1, hR2, hRc, hRs⟩ := F
  intro pc q lp st M x y off tgt h1 h2 h3 h4 h5 k
  have hdg := htab _ (lk_mem h1)
  subst h2
  intro H locs ls hP hS hl
  exact lv_icmp_ne hx hb hdg h3 (fun z => k.1 (fun e => z ((of_eq h4 h5).mpr e)) H locs ls hP hS hl) (fun z => k.2 (fun g => g ((of_eq h4 h5).mp z)) H locs ls hP hS hl)
set_option maxHeartbeats 1000000 in
theorem s_if_ne {X : Sx} {L : Nat} {scr : Int → Int} {p : Program} {l : Launch} {e : Env} {R : Room} {s : State} {m : MethodId} {args : Array Value} {below : List Frame} {meth : Method} {c : Code} {own : String} {cc : ByteArray} {nL ca sl : Nat} {Q : State → Prop} {D : va_G} {cA : Nat → ClassId} {ad : Nat → Nat} {A : Nat → Prop} (F : Fx X L scr p s m args c own cc nL R ca sl D cA ad A) : k_if_ne X L (xcF scr) (JW p l e R s m args below meth c nL ca sl Q D cA ad A L) := by
  obtain ⟨hx, hb, hml, hown, hts, hK, had, hE, hL, htab, hfd, hkL, hkI, hsg, hnt, hcl, hR1, hR2, hRc, hRs⟩ := F
  intro pc q lp st M x off tgt h1 h2 h3 h4 k
  have hdg := htab _ (lk_mem h1)
  subst h2
  intro H locs ls hP hS hl
  exact lv_if_ne hx hb hdg h3 (fun z => k.1 (fun e => z ((of_eq h4 ⟨by decide, by decide⟩).mpr e)) H locs ls hP hS hl) (fun z => k.2 (fun g => g ((of_eq h4 ⟨by decide, by decide⟩).mp z)) H locs ls hP hS hl)
set_option maxHeartbeats 1000000 in
theorem s_icmp_lt {X : Sx} {L : Nat} {scr : Int → Int} {p : Program} {l : Launch} {e : Env} {R : Room} {s : State} {m : MethodId} {args : Array Value} {below : List Frame} {meth : Method} {c : Code} {own : String} {cc : ByteArray} {nL ca sl : Nat} {Q : State → Prop} {D : va_G} {cA : Nat → ClassId} {ad : Nat → Nat} {A : Nat → Prop} (F : Fx X L scr p s m args c own cc nL R ca sl D cA ad A) : k_icmp_lt X L (xcF scr) (JW p l e R s m args below meth c nL ca sl Q D cA ad A L) := by
  obtain ⟨hx, hb, hml, hown, hts, hK, had, hE, hL, htab, hfd, hkL, hkI, hsg, hnt, hcl, hR1, hR2, hRc, hRs⟩ := F
  intro pc q lp st M x y off tgt h1 h2 h3 h4 h5 k
  have hdg := htab _ (lk_mem h1)
  subst h2
  intro H locs ls hP hS hl
  exact lv_icmp_lt hx hb hdg h3 (fun z => k.1 ((of_lt h4 h5).mp z) H locs ls hP hS hl) (fun z => k.2 (fun e => z ((of_lt h4 h5).mpr e)) H locs ls hP hS hl)
set_option maxHeartbeats 1000000 in
theorem s_if_lt {X : Sx} {L : Nat} {scr : Int → Int} {p : Program} {l : Launch} {e : Env} {R : Room} {s : State} {m : MethodId} {args : Array Value} {below : List Frame} {meth : Method} {c : Code} {own : String} {cc : ByteArray} {nL ca sl : Nat} {Q : State → Prop} {D : va_G} {cA : Nat → ClassId} {ad : Nat → Nat} {A : Nat → Prop} (F : Fx X L scr p s m args c own cc nL R ca sl D cA ad A) : k_if_lt X L (xcF scr) (JW p l e R s m args below meth c nL ca sl Q D cA ad A L) := by
  obtain ⟨hx, hb, hml, hown, hts, hK, had, hE, hL, htab, hfd, hkL, hkI, hsg, hnt, hcl, hR1, hR2, hRc, hRs⟩ := F
  intro pc q lp st M x off tgt h1 h2 h3 h4 k
  have hdg := htab _ (lk_mem h1)
  subst h2
  intro H locs ls hP hS hl
  exact lv_if_lt hx hb hdg h3 (fun z => k.1 ((of_lt h4 ⟨by decide, by decide⟩).mp z) H locs ls hP hS hl) (fun z => k.2 (fun e => z ((of_lt h4 ⟨by decide, by decide⟩).mpr e)) H locs ls hP hS hl)
set_option maxHeartbeats 1000000 in
theorem s_icmp_ge {X : Sx} {L : Nat} {scr : Int → Int} {p : Program} {l : Launch} {e : Env} {R : Room} {s : State} {m : MethodId} {args : Array Value} {below : List Frame} {meth : Method} {c : Code} {own : String} {cc : ByteArray} {nL ca sl : Nat} {Q : State → Prop} {D : va_G} {cA : Nat → ClassId} {ad : Nat → Nat} {A : Nat → Prop} (F : Fx X L scr p s m args c own cc nL R ca sl D cA ad A) : k_icmp_ge X L (xcF scr) (JW p l e R s m args below meth c nL ca sl Q D cA ad A L) := by
  obtain ⟨hx, hb, hml, hown, hts, hK, had, hE, hL, htab, hfd, hkL, hkI, hsg, hnt, hcl, hR1, hR2, hRc, hRs⟩ := F
  intro pc q lp st M x y off tgt h1 h2 h3 h4 h5 k
  have hdg := htab _ (lk_mem h1)
  subst h2
  intro H locs ls hP hS hl
  exact lv_icmp_ge hx hb hdg h3 (fun z => k.1 ((of_le h5 h4).mp z) H locs ls hP hS hl) (fun z => k.2 (fun e => z ((of_le h5 h4).mpr e)) H locs ls hP hS hl)
set_option maxHeartbeats 1000000 in
theorem s_if_ge {X : Sx} {L : Nat} {scr : Int → Int} {p : Program} {l : Launch} {e : Env} {R : Room} {s : State} {m : MethodId} {args : Array Value} {below : List Frame} {meth : Method} {c : Code} {own : String} {cc : ByteArray} {nL ca sl : Nat} {Q : State → Prop} {D : va_G} {cA : Nat → ClassId} {ad : Nat → Nat} {A : Nat → Prop} (F : Fx X L scr p s m args c own cc nL R ca sl D cA ad A) : k_if_ge X L (xcF scr) (JW p l e R s m args below meth c nL ca sl Q D cA ad A L) := by
  obtain ⟨hx, hb, hml, hown, hts, hK, had, hE, hL, htab, hfd, hkL, hkI, hsg, hnt, hcl, hR1, hR2, hRc, hRs⟩ := F
  intro pc q lp st M x off tgt h1 h2 h3 h4 k
  have hdg := htab _ (lk_mem h1)
  subst h2
  intro H locs ls hP hS hl
  exact lv_if_ge hx hb hdg h3 (fun z => k.1 ((of_le ⟨by decide, by decide⟩ h4).mp z) H locs ls hP hS hl) (fun z => k.2 (fun e => z ((of_le ⟨by decide, by decide⟩ h4).mpr e)) H locs ls hP hS hl)
set_option maxHeartbeats 1000000 in
theorem s_icmp_gt {X : Sx} {L : Nat} {scr : Int → Int} {p : Program} {l : Launch} {e : Env} {R : Room} {s : State} {m : MethodId} {args : Array Value} {below : List Frame} {meth : Method} {c : Code} {own : String} {cc : ByteArray} {nL ca sl : Nat} {Q : State → Prop} {D : va_G} {cA : Nat → ClassId} {ad : Nat → Nat} {A : Nat → Prop} (F : Fx X L scr p s m args c own cc nL R ca sl D cA ad A) : k_icmp_gt X L (xcF scr) (JW p l e R s m args below meth c nL ca sl Q D cA ad A L) := by
  obtain ⟨hx, hb, hml, hown, hts, hK, had, hE, hL, htab, hfd, hkL, hkI, hsg, hnt, hcl, hR1, hR2, hRc, hRs⟩ := F
  intro pc q lp st M x y off tgt h1 h2 h3 h4 h5 k
  have hdg := htab _ (lk_mem h1)
  subst h2
  intro H locs ls hP hS hl
  exact lv_icmp_gt hx hb hdg h3 (fun z => k.1 ((of_lt h5 h4).mp z) H locs ls hP hS hl) (fun z => k.2 (fun e => z ((of_lt h5 h4).mpr e)) H locs ls hP hS hl)
set_option maxHeartbeats 1000000 in
theorem s_if_gt {X : Sx} {L : Nat} {scr : Int → Int} {p : Program} {l : Launch} {e : Env} {R : Room} {s : State} {m : MethodId} {args : Array Value} {below : List Frame} {meth : Method} {c : Code} {own : String} {cc : ByteArray} {nL ca sl : Nat} {Q : State → Prop} {D : va_G} {cA : Nat → ClassId} {ad : Nat → Nat} {A : Nat → Prop} (F : Fx X L scr p s m args c own cc nL R ca sl D cA ad A) : k_if_gt X L (xcF scr) (JW p l e R s m args below meth c nL ca sl Q D cA ad A L) := by
  obtain ⟨hx, hb, hml, hown, hts, hK, had, hE, hL, htab, hfd, hkL, hkI, hsg, hnt, hcl, hR1, hR2, hRc, hRs⟩ := F
  intro pc q lp st M x off tgt h1 h2 h3 h4 k
  have hdg := htab _ (lk_mem h1)
  subst h2
  intro H locs ls hP hS hl
  exact lv_if_gt hx hb hdg h3 (fun z => k.1 ((of_lt ⟨by decide, by decide⟩ h4).mp z) H locs ls hP hS hl) (fun z => k.2 (fun e => z ((of_lt ⟨by decide, by decide⟩ h4).mpr e)) H locs ls hP hS hl)
set_option maxHeartbeats 1000000 in
theorem s_icmp_le {X : Sx} {L : Nat} {scr : Int → Int} {p : Program} {l : Launch} {e : Env} {R : Room} {s : State} {m : MethodId} {args : Array Value} {below : List Frame} {meth : Method} {c : Code} {own : String} {cc : ByteArray} {nL ca sl : Nat} {Q : State → Prop} {D : va_G} {cA : Nat → ClassId} {ad : Nat → Nat} {A : Nat → Prop} (F : Fx X L scr p s m args c own cc nL R ca sl D cA ad A) : k_icmp_le X L (xcF scr) (JW p l e R s m args below meth c nL ca sl Q D cA ad A L) := by
  obtain ⟨hx, hb, hml, hown, hts, hK, had, hE, hL, htab, hfd, hkL, hkI, hsg, hnt, hcl, hR1, hR2, hRc, hRs⟩ := F
  intro pc q lp st M x y off tgt h1 h2 h3 h4 h5 k
  have hdg := htab _ (lk_mem h1)
  subst h2
  intro H locs ls hP hS hl
  exact lv_icmp_le hx hb hdg h3 (fun z => k.1 ((of_le h4 h5).mp z) H locs ls hP hS hl) (fun z => k.2 (fun e => z ((of_le h4 h5).mpr e)) H locs ls hP hS hl)
set_option maxHeartbeats 1000000 in
theorem s_if_le {X : Sx} {L : Nat} {scr : Int → Int} {p : Program} {l : Launch} {e : Env} {R : Room} {s : State} {m : MethodId} {args : Array Value} {below : List Frame} {meth : Method} {c : Code} {own : String} {cc : ByteArray} {nL ca sl : Nat} {Q : State → Prop} {D : va_G} {cA : Nat → ClassId} {ad : Nat → Nat} {A : Nat → Prop} (F : Fx X L scr p s m args c own cc nL R ca sl D cA ad A) : k_if_le X L (xcF scr) (JW p l e R s m args below meth c nL ca sl Q D cA ad A L) := by
  obtain ⟨hx, hb, hml, hown, hts, hK, had, hE, hL, htab, hfd, hkL, hkI, hsg, hnt, hcl, hR1, hR2, hRc, hRs⟩ := F
  intro pc q lp st M x off tgt h1 h2 h3 h4 k
  have hdg := htab _ (lk_mem h1)
  subst h2
  intro H locs ls hP hS hl
  exact lv_if_le hx hb hdg h3 (fun z => k.1 ((of_le h4 ⟨by decide, by decide⟩).mp z) H locs ls hP hS hl) (fun z => k.2 (fun e => z ((of_le h4 ⟨by decide, by decide⟩).mpr e)) H locs ls hP hS hl)
set_option maxHeartbeats 1000000 in
theorem s_goto {X : Sx} {L : Nat} {scr : Int → Int} {p : Program} {l : Launch} {e : Env} {R : Room} {s : State} {m : MethodId} {args : Array Value} {below : List Frame} {meth : Method} {c : Code} {own : String} {cc : ByteArray} {nL ca sl : Nat} {Q : State → Prop} {D : va_G} {cA : Nat → ClassId} {ad : Nat → Nat} {A : Nat → Prop} (F : Fx X L scr p s m args c own cc nL R ca sl D cA ad A) : k_goto X L (xcF scr) (JW p l e R s m args below meth c nL ca sl Q D cA ad A L) := by
  obtain ⟨hx, hb, hml, hown, hts, hK, had, hE, hL, htab, hfd, hkL, hkI, hsg, hnt, hcl, hR1, hR2, hRc, hRs⟩ := F
  intro pc q lp st M off tgt h1 h2 h3 k
  have hdg := htab _ (lk_mem h1)
  subst h2
  intro H locs ls hP hS hl
  exact lv_goto hx hb hdg h3 (k H locs ls hP hS hl)
set_option maxHeartbeats 1000000 in
theorem s_eqS {X : Sx} {L : Nat} {scr : Int → Int} {p : Program} {l : Launch} {e : Env} {R : Room} {s : State} {m : MethodId} {args : Array Value} {below : List Frame} {meth : Method} {c : Code} {own : String} {cc : ByteArray} {nL ca sl : Nat} {Q : State → Prop} {D : va_G} {cA : Nat → ClassId} {ad : Nat → Nat} {A : Nat → Prop} (F : Fx X L scr p s m args c own cc nL R ca sl D cA ad A) : k_eqS X L (xcF scr) (JW p l e R s m args below meth c nL ca sl Q D cA ad A L) := by
  obtain ⟨hx, hb, hml, hown, hts, hK, had, hE, hL, htab, hfd, hkL, hkI, hsg, hnt, hcl, hR1, hR2, hRc, hRs⟩ := F
  intro pc q lp st M x off tgt h1 h2 h3 k
  have hdg := htab _ (lk_mem h1)
  subst h2
  intro H locs ls hP hS hl
  exact lv_icmp_eq hx hb hdg h3 (fun _ => k H locs ls hP hS hl) (fun z => absurd rfl z)
set_option maxHeartbeats 1000000 in
theorem s_tblIn {X : Sx} {L : Nat} {scr : Int → Int} {p : Program} {l : Launch} {e : Env} {R : Room} {s : State} {m : MethodId} {args : Array Value} {below : List Frame} {meth : Method} {c : Code} {own : String} {cc : ByteArray} {nL ca sl : Nat} {Q : State → Prop} {D : va_G} {cA : Nat → ClassId} {ad : Nat → Nat} {A : Nat → Prop} (F : Fx X L scr p s m args c own cc nL R ca sl D cA ad A) : k_tblIn X L (xcF scr) (JW p l e R s m args below meth c nL ca sl Q D cA ad A L) := by
  obtain ⟨hx, hb, hml, hown, hts, hK, had, hE, hL, htab, hfd, hkL, hkI, hsg, hnt, hcl, hR1, hR2, hRc, hRs⟩ := F
  intro pc q lp st M x dflt lo hi offs len off tgt h1 h2 h3 h4 h5 h6 k
  have hdg := htab _ (lk_mem h1)
  subst h2
  intro H locs ls hP hS hl
  have e := i32_id h3
  unfold i32 at e
  exact lv_tableIn hx hb hdg (by rw [e]; omega) (by rw [e]; omega) (by rw [e]; exact h5) h6 (k H locs ls hP hS hl)
set_option maxHeartbeats 1000000 in
theorem s_tblOut {X : Sx} {L : Nat} {scr : Int → Int} {p : Program} {l : Launch} {e : Env} {R : Room} {s : State} {m : MethodId} {args : Array Value} {below : List Frame} {meth : Method} {c : Code} {own : String} {cc : ByteArray} {nL ca sl : Nat} {Q : State → Prop} {D : va_G} {cA : Nat → ClassId} {ad : Nat → Nat} {A : Nat → Prop} (F : Fx X L scr p s m args c own cc nL R ca sl D cA ad A) : k_tblOut X L (xcF scr) (JW p l e R s m args below meth c nL ca sl Q D cA ad A L) := by
  obtain ⟨hx, hb, hml, hown, hts, hK, had, hE, hL, htab, hfd, hkL, hkI, hsg, hnt, hcl, hR1, hR2, hRc, hRs⟩ := F
  intro pc q lp st M x dflt lo hi offs len tgt h1 h2 h3 h4 h5 k
  have hdg := htab _ (lk_mem h1)
  subst h2
  intro H locs ls hP hS hl
  have e := i32_id h3
  unfold i32 at e
  exact lv_tableOut hx hb hdg (by rw [e]; exact h4) h5 (k H locs ls hP hS hl)
set_option maxHeartbeats 1000000 in
theorem s_lookup {X : Sx} {L : Nat} {scr : Int → Int} {p : Program} {l : Launch} {e : Env} {R : Room} {s : State} {m : MethodId} {args : Array Value} {below : List Frame} {meth : Method} {c : Code} {own : String} {cc : ByteArray} {nL ca sl : Nat} {Q : State → Prop} {D : va_G} {cA : Nat → ClassId} {ad : Nat → Nat} {A : Nat → Prop} (F : Fx X L scr p s m args c own cc nL R ca sl D cA ad A) : k_lookup X L (xcF scr) (JW p l e R s m args below meth c nL ca sl Q D cA ad A L) := by
  obtain ⟨hx, hb, hml, hown, hts, hK, had, hE, hL, htab, hfd, hkL, hkI, hsg, hnt, hcl, hR1, hR2, hRc, hRs⟩ := F
  intro pc q lp st M x dflt ps len off tgt h1 h2 h3 h4 h5 h6 k
  have hdg := htab _ (lk_mem h1)
  subst h2
  intro H locs ls hP hS hl
  have e := i32_id h3
  unfold i32 at e
  exact lv_lookup hx hb hdg h4 (by rw [e]; exact h5) h6 (k H locs ls hP hS hl)
set_option maxHeartbeats 1000000 in
theorem s_getI {X : Sx} {L : Nat} {scr : Int → Int} {p : Program} {l : Launch} {e : Env} {R : Room} {s : State} {m : MethodId} {args : Array Value} {below : List Frame} {meth : Method} {c : Code} {own : String} {cc : ByteArray} {nL ca sl : Nat} {Q : State → Prop} {D : va_G} {cA : Nat → ClassId} {ad : Nat → Nat} {A : Nat → Prop} (F : Fx X L scr p s m args c own cc nL R ca sl D cA ad A) : k_getI X L (xcF scr) (JW p l e R s m args below meth c nL ca sl Q D cA ad A L) := by
  obtain ⟨hx, hb, hml, hown, hts, hK, had, hE, hL, htab, hfd, hkL, hkI, hsg, hnt, hcl, hR1, hR2, hRc, hRs⟩ := F
  intro pc q lp st M i ci k0 r f k1 h1 h2 h3 h4 h5 h6 h7 k
  have hdg := htab _ (lk_mem h1)
  subst h2
  intro H locs ls hP hS hl
  try subst h7
  obtain ⟨f1, f2, f3⟩ := hfd _ (lk_mem h3)
  have he := wld_at (ad := ad) (cA := cA) (L := L) (M := M) h6
  rw [h4] at he
  exact va_get hx hb hts (clsW f1) hown hK hP _ he (clsL_at f1) k0 f2 (hts _ f3) (fun _ z => z) ((ceV_at f2).trans (congrArg some (by simp only [ceV, h5]; rfl))) hdg (k H locs ls hP hS hl)
set_option maxHeartbeats 1000000 in
theorem s_getR {X : Sx} {L : Nat} {scr : Int → Int} {p : Program} {l : Launch} {e : Env} {R : Room} {s : State} {m : MethodId} {args : Array Value} {below : List Frame} {meth : Method} {c : Code} {own : String} {cc : ByteArray} {nL ca sl : Nat} {Q : State → Prop} {D : va_G} {cA : Nat → ClassId} {ad : Nat → Nat} {A : Nat → Prop} (F : Fx X L scr p s m args c own cc nL R ca sl D cA ad A) : k_getR X L (xcF scr) (JW p l e R s m args below meth c nL ca sl Q D cA ad A L) := by
  obtain ⟨hx, hb, hml, hown, hts, hK, had, hE, hL, htab, hfd, hkL, hkI, hsg, hnt, hcl, hR1, hR2, hRc, hRs⟩ := F
  intro pc q lp st M i ci k0 r r' f h1 h2 h3 h4 h5 h6 k
  have hdg := htab _ (lk_mem h1)
  subst h2
  intro H locs ls hP hS hl
  obtain ⟨f1, f2, f3⟩ := hfd _ (lk_mem h3)
  have he := wld_at (ad := ad) (cA := cA) (L := L) (M := M) h6
  rw [h4] at he
  exact va_get hx hb hts (clsW f1) hown hK hP _ he (clsL_at f1) k0 f2 (hts _ f3) (fun _ z => z) ((ceV_at f2).trans (congrArg some (by simp only [ceV, h5]; rfl))) hdg (k H locs ls hP hS hl)
set_option maxHeartbeats 1000000 in
theorem s_putI {X : Sx} {L : Nat} {scr : Int → Int} {p : Program} {l : Launch} {e : Env} {R : Room} {s : State} {m : MethodId} {args : Array Value} {below : List Frame} {meth : Method} {c : Code} {own : String} {cc : ByteArray} {nL ca sl : Nat} {Q : State → Prop} {D : va_G} {cA : Nat → ClassId} {ad : Nat → Nat} {A : Nat → Prop} (F : Fx X L scr p s m args c own cc nL R ca sl D cA ad A) : k_putI X L (xcF scr) (JW p l e R s m args below meth c nL ca sl Q D cA ad A L) := by
  obtain ⟨hx, hb, hml, hown, hts, hK, had, hE, hL, htab, hfd, hkL, hkI, hsg, hnt, hcl, hR1, hR2, hRc, hRs⟩ := F
  intro pc q lp st M i ci k0 r f k1 x M2 h1 h2 h3 h4 h5 h6 h7 h8 h9 h10 k
  have hdg := htab _ (lk_mem h1)
  subst h2
  intro H locs ls hP hS hl
  subst h10
  obtain ⟨f1, f2, f3⟩ := hfd _ (lk_mem h3)
  have he := wld_at (ad := ad) (cA := cA) (L := L) (M := M) h6
  rw [h4] at he
  refine va_put (ty := .int) hx hb hts (clsW f1) (tyC ci) (tyC_ok f1) (nmC_ok f1) hown hK hP (had.D cA L M) hS _ he (clsL_at f1) k0 f2 (hts _ f3) (fun _ z => z) h7 ((tyC_ok f1 k0 f2).trans (congrArg some h8)) rfl rfl (by simpa using f2) hdg (fun H1 locs1 hP1 hD1 hS1 => ?_)
  rw [show vp ad (wI x) = Value.int (Int32.ofInt x) from rfl, ceV_set h5 (upM_eq (r := r) (k := k0) (k1 := k1) (x := x) (M := M) h9)] at hP1
  have hw := wld_set (ad := ad) (cA := cA) (L := L) (M := M) (M' := upM M r k1 x) h6 upM_ne
  rw [h4] at hw
  exact k H1 locs1 ls (hw ▸ hP1) hS1 hl
set_option maxHeartbeats 1000000 in
theorem s_iald {X : Sx} {L : Nat} {scr : Int → Int} {p : Program} {l : Launch} {e : Env} {R : Room} {s : State} {m : MethodId} {args : Array Value} {below : List Frame} {meth : Method} {c : Code} {own : String} {cc : ByteArray} {nL ca sl : Nat} {Q : State → Prop} {D : va_G} {cA : Nat → ClassId} {ad : Nat → Nat} {A : Nat → Prop} (F : Fx X L scr p s m args c own cc nL R ca sl D cA ad A) : k_iald X L (xcF scr) (JW p l e R s m args below meth c nL ca sl Q D cA ad A L) := by
  obtain ⟨hx, hb, hml, hown, hts, hK, had, hE, hL, htab, hfd, hkL, hkI, hsg, hnt, hcl, hR1, hR2, hRc, hRs⟩ := F
  intro pc q lp st M i v r n h1 h2 h3 h4 h5 h6 k
  have hdg := htab _ (lk_mem h1)
  subst h2
  intro H locs ls hP hS hl
  subst h6
  have he := wld_at (ad := ad) (cA := cA) (L := L) (M := M) h4
  rw [h3] at he
  obtain ⟨g1, g2⟩ := of_in h5.1 h5.2 ((LAY_ok hL r).2.1 _ _ h3).2
  exact va_iald hx hb hK hP _ 0 he (tysL_at cA (by decide)) g1 hdg (by rw [g2]; show W p l e R s m args below meth c H locs ca sl Q (F0 m (pc + 1) ls (.int (Int32.ofInt (M r (i.toNat : Int))) :: _)); rw [Int.toNat_of_nonneg h5.1]; exact k H locs ls hP hS hl)
set_option maxHeartbeats 1000000 in
theorem s_cald {X : Sx} {L : Nat} {scr : Int → Int} {p : Program} {l : Launch} {e : Env} {R : Room} {s : State} {m : MethodId} {args : Array Value} {below : List Frame} {meth : Method} {c : Code} {own : String} {cc : ByteArray} {nL ca sl : Nat} {Q : State → Prop} {D : va_G} {cA : Nat → ClassId} {ad : Nat → Nat} {A : Nat → Prop} (F : Fx X L scr p s m args c own cc nL R ca sl D cA ad A) : k_cald X L (xcF scr) (JW p l e R s m args below meth c nL ca sl Q D cA ad A L) := by
  obtain ⟨hx, hb, hml, hown, hts, hK, had, hE, hL, htab, hfd, hkL, hkI, hsg, hnt, hcl, hR1, hR2, hRc, hRs⟩ := F
  intro pc q lp st M i v r n h1 h2 h3 h4 h5 h6 k
  have hdg := htab _ (lk_mem h1)
  subst h2
  intro H locs ls hP hS hl
  subst h6
  have he := wld_at (ad := ad) (cA := cA) (L := L) (M := M) h4
  rw [h3] at he
  obtain ⟨g1, g2⟩ := of_in h5.1 h5.2 ((LAY_ok hL r).2.1 _ _ h3).2
  exact va_cald hx hb hK hP _ 1 he (tysL_at cA (by decide)) g1 hdg (by rw [g2]; show W p l e R s m args below meth c H locs ca sl Q (F0 m (pc + 1) ls (.int (Int32.ofInt (M r (i.toNat : Int))) :: _)); rw [Int.toNat_of_nonneg h5.1]; exact k H locs ls hP hS hl)
set_option maxHeartbeats 1000000 in
theorem s_zald {X : Sx} {L : Nat} {scr : Int → Int} {p : Program} {l : Launch} {e : Env} {R : Room} {s : State} {m : MethodId} {args : Array Value} {below : List Frame} {meth : Method} {c : Code} {own : String} {cc : ByteArray} {nL ca sl : Nat} {Q : State → Prop} {D : va_G} {cA : Nat → ClassId} {ad : Nat → Nat} {A : Nat → Prop} (F : Fx X L scr p s m args c own cc nL R ca sl D cA ad A) : k_zald X L (xcF scr) (JW p l e R s m args below meth c nL ca sl Q D cA ad A L) := by
  obtain ⟨hx, hb, hml, hown, hts, hK, had, hE, hL, htab, hfd, hkL, hkI, hsg, hnt, hcl, hR1, hR2, hRc, hRs⟩ := F
  intro pc q lp st M i v r n h1 h2 h3 h4 h5 h6 k
  have hdg := htab _ (lk_mem h1)
  subst h2
  intro H locs ls hP hS hl
  subst h6
  have he := wld_at (ad := ad) (cA := cA) (L := L) (M := M) h4
  rw [h3] at he
  obtain ⟨g1, g2⟩ := of_in h5.1 h5.2 ((LAY_ok hL r).2.1 _ _ h3).2
  exact va_zald hx hb hK hP _ 2 he (tysL_at cA (by decide)) g1 hdg (by rw [g2]; show W p l e R s m args below meth c H locs ca sl Q (F0 m (pc + 1) ls (.int (Int32.ofInt (M r (i.toNat : Int))) :: _)); rw [Int.toNat_of_nonneg h5.1]; exact k H locs ls hP hS hl)
set_option maxHeartbeats 1000000 in
theorem s_iast {X : Sx} {L : Nat} {scr : Int → Int} {p : Program} {l : Launch} {e : Env} {R : Room} {s : State} {m : MethodId} {args : Array Value} {below : List Frame} {meth : Method} {c : Code} {own : String} {cc : ByteArray} {nL ca sl : Nat} {Q : State → Prop} {D : va_G} {cA : Nat → ClassId} {ad : Nat → Nat} {A : Nat → Prop} (F : Fx X L scr p s m args c own cc nL R ca sl D cA ad A) : k_iast X L (xcF scr) (JW p l e R s m args below meth c nL ca sl Q D cA ad A L) := by
  obtain ⟨hx, hb, hml, hown, hts, hK, had, hE, hL, htab, hfd, hkL, hkI, hsg, hnt, hcl, hR1, hR2, hRc, hRs⟩ := F
  intro pc q lp st M x i r n M2 h1 h2 h3 h4 h5 h6 k
  have hdg := htab _ (lk_mem h1)
  subst h2
  intro H locs ls hP hS hl
  subst h6
  have he := wld_at (ad := ad) (cA := cA) (L := L) (M := M) h4
  rw [h3] at he
  obtain ⟨g1, g2⟩ := of_in h5.1 h5.2 ((LAY_ok hL r).2.1 _ _ h3).2
  refine va_iast hx hb hK hP (had.D cA L M) hS _ 0 he (tysL_at cA (by decide)) g1 hdg (fun H1 locs1 hP1 hD1 hS1 => ?_)
  rw [g2, upd_of] at hP1
  have hw := wld_set (ad := ad) (cA := cA) (L := L) (M := M) (M' := upM M r i x) h4 upM_ne
  rw [h3, upM_eq (Int.toNat_of_nonneg h5.1)] at hw
  exact k H1 locs1 ls (hw ▸ hP1) hS1 hl
set_option maxHeartbeats 1000000 in
theorem s_cast {X : Sx} {L : Nat} {scr : Int → Int} {p : Program} {l : Launch} {e : Env} {R : Room} {s : State} {m : MethodId} {args : Array Value} {below : List Frame} {meth : Method} {c : Code} {own : String} {cc : ByteArray} {nL ca sl : Nat} {Q : State → Prop} {D : va_G} {cA : Nat → ClassId} {ad : Nat → Nat} {A : Nat → Prop} (F : Fx X L scr p s m args c own cc nL R ca sl D cA ad A) : k_cast X L (xcF scr) (JW p l e R s m args below meth c nL ca sl Q D cA ad A L) := by
  obtain ⟨hx, hb, hml, hown, hts, hK, had, hE, hL, htab, hfd, hkL, hkI, hsg, hnt, hcl, hR1, hR2, hRc, hRs⟩ := F
  intro pc q lp st M x i r n M2 h1 h2 h3 h4 h5 h6 h7 k
  have hdg := htab _ (lk_mem h1)
  subst h2
  intro H locs ls hP hS hl
  subst h7
  have he := wld_at (ad := ad) (cA := cA) (L := L) (M := M) h4
  rw [h3] at he
  obtain ⟨g1, g2⟩ := of_in h5.1 h5.2 ((LAY_ok hL r).2.1 _ _ h3).2
  refine va_cast hx hb hK hP (had.D cA L M) hS _ 1 he (tysL_at cA (by decide)) g1 hdg (fun H1 locs1 hP1 hD1 hS1 => ?_)
  rw [g2, nar_c h6, upd_of] at hP1
  have hw := wld_set (ad := ad) (cA := cA) (L := L) (M := M) (M' := upM M r i x) h4 upM_ne
  rw [h3, upM_eq (Int.toNat_of_nonneg h5.1)] at hw
  exact k H1 locs1 ls (hw ▸ hP1) hS1 hl
set_option maxHeartbeats 1000000 in
theorem s_zast {X : Sx} {L : Nat} {scr : Int → Int} {p : Program} {l : Launch} {e : Env} {R : Room} {s : State} {m : MethodId} {args : Array Value} {below : List Frame} {meth : Method} {c : Code} {own : String} {cc : ByteArray} {nL ca sl : Nat} {Q : State → Prop} {D : va_G} {cA : Nat → ClassId} {ad : Nat → Nat} {A : Nat → Prop} (F : Fx X L scr p s m args c own cc nL R ca sl D cA ad A) : k_zast X L (xcF scr) (JW p l e R s m args below meth c nL ca sl Q D cA ad A L) := by
  obtain ⟨hx, hb, hml, hown, hts, hK, had, hE, hL, htab, hfd, hkL, hkI, hsg, hnt, hcl, hR1, hR2, hRc, hRs⟩ := F
  intro pc q lp st M x i r n M2 h1 h2 h3 h4 h5 h6 h7 k
  have hdg := htab _ (lk_mem h1)
  subst h2
  intro H locs ls hP hS hl
  subst h7
  have he := wld_at (ad := ad) (cA := cA) (L := L) (M := M) h4
  rw [h3] at he
  obtain ⟨g1, g2⟩ := of_in h5.1 h5.2 ((LAY_ok hL r).2.1 _ _ h3).2
  refine va_zast hx hb hK hP (had.D cA L M) hS _ 2 he (tysL_at cA (by decide)) g1 hdg (fun H1 locs1 hP1 hD1 hS1 => ?_)
  rw [g2, nar_z h6, upd_of] at hP1
  have hw := wld_set (ad := ad) (cA := cA) (L := L) (M := M) (M' := upM M r i x) h4 upM_ne
  rw [h3, upM_eq (Int.toNat_of_nonneg h5.1)] at hw
  exact k H1 locs1 ls (hw ▸ hP1) hS1 hl
set_option maxHeartbeats 1000000 in
theorem s_aald {X : Sx} {L : Nat} {scr : Int → Int} {p : Program} {l : Launch} {e : Env} {R : Room} {s : State} {m : MethodId} {args : Array Value} {below : List Frame} {meth : Method} {c : Code} {own : String} {cc : ByteArray} {nL ca sl : Nat} {Q : State → Prop} {D : va_G} {cA : Nat → ClassId} {ad : Nat → Nat} {A : Nat → Prop} (F : Fx X L scr p s m args c own cc nL R ca sl D cA ad A) : k_aald X L (xcF scr) (JW p l e R s m args below meth c nL ca sl Q D cA ad A L) := by
  obtain ⟨hx, hb, hml, hown, hts, hK, had, hE, hL, htab, hfd, hkL, hkI, hsg, hnt, hcl, hR1, hR2, hRc, hRs⟩ := F
  intro pc q lp st M i r t n r2 f h1 h2 h3 h4 h5 h6 k
  have hdg := htab _ (lk_mem h1)
  subst h2
  intro H locs ls hP hS hl
  subst h6
  have he := wld_at (ad := ad) (cA := cA) (L := L) (M := M) h4
  rw [h3] at he
  obtain ⟨t1, t2, t3⟩ := (LAY_ok hL r).2.2 _ _ _ h3
  obtain ⟨g1, g2⟩ := of_in h5.1 h5.2 t3
  have hlt : i.toNat < n := by omega
  have hq := (hK.2 t _ (tysL_at cA t1)).1 n (fun j => va_rf (if j < n then some (ad (f j)) else none))
  exact W.aald (v := .ref (ad (f i.toNat))) (ty := tagT t) hx hb (hP _ _ he) hq (tag_ref t1 t2) (fun z => by cases z) (by show ¬ (_ < 0 ∨ (arrV _ _ _).slots.size ≤ _); rw [arrV_size]; exact g1) (by show (arrV _ _ _).slots[_]? = _; rw [g2, arrV_read _ _ hlt]; show some (va_rf (if i.toNat < n then some (ad (f i.toNat)) else none)) = _; rw [if_pos hlt]; rfl) rfl rfl hdg (k H locs ls hP hS hl)
set_option maxHeartbeats 1000000 in
theorem s_ialdX {X : Sx} {L : Nat} {scr : Int → Int} {p : Program} {l : Launch} {e : Env} {R : Room} {s : State} {m : MethodId} {args : Array Value} {below : List Frame} {meth : Method} {c : Code} {own : String} {cc : ByteArray} {nL ca sl : Nat} {Q : State → Prop} {D : va_G} {cA : Nat → ClassId} {ad : Nat → Nat} {A : Nat → Prop} (F : Fx X L scr p s m args c own cc nL R ca sl D cA ad A) : k_ialdX X L (xcF scr) (JW p l e R s m args below meth c nL ca sl Q D cA ad A L) := by
  obtain ⟨hx, hb, hml, hown, hts, hK, had, hE, hL, htab, hfd, hkL, hkI, hsg, hnt, hcl, hR1, hR2, hRc, hRs⟩ := F
  intro pc q lp st M i r h1 h2 h3 h4 k
  have hdg := htab _ (lk_mem h1)
  subst h2
  intro H locs ls hP hS hl
  obtain ⟨cell, e1, e2, e3, e4, e5, e6, e7⟩ := hE.1 r h3
  have hn : exN L r < 2147483648 := by unfold exN; split <;> omega
  obtain ⟨g1, g2⟩ := of_in h4.1 h4.2 hn
  have hlt : i.toNat < exN L r := by omega
  have e6 : cell.slots[i.toNat]? = some (Value.int (Int32.ofInt (nt_ (xcF scr r) i.toNat))) := e6 _ hlt
  rw [show nt_ (xcF scr r) i.toNat = xcF scr r i from congrArg (xcF scr r) (Int.toNat_of_nonneg h4.1)] at e6
  exact W.iald (v := .int (Int32.ofInt (xcF scr r i))) hx hb (by rw [hS.2.1 _ (Array.getElem?_eq_some_iff.mp e1).1 e7]; exact e1) e2 e3 (fun z => g1 (z.imp id (fun z => Nat.le_trans e4 z))) (by rw [g2]; exact e6) rfl rfl hdg (k H locs ls hP hS hl)
set_option maxHeartbeats 1000000 in
theorem s_alenX {X : Sx} {L : Nat} {scr : Int → Int} {p : Program} {l : Launch} {e : Env} {R : Room} {s : State} {m : MethodId} {args : Array Value} {below : List Frame} {meth : Method} {c : Code} {own : String} {cc : ByteArray} {nL ca sl : Nat} {Q : State → Prop} {D : va_G} {cA : Nat → ClassId} {ad : Nat → Nat} {A : Nat → Prop} (F : Fx X L scr p s m args c own cc nL R ca sl D cA ad A) : k_alenX X L (xcF scr) (JW p l e R s m args below meth c nL ca sl Q D cA ad A L) := by
  obtain ⟨hx, hb, hml, hown, hts, hK, had, hE, hL, htab, hfd, hkL, hkI, hsg, hnt, hcl, hR1, hR2, hRc, hRs⟩ := F
  intro pc q lp st M r h1 h2 h3 k
  have hdg := htab _ (lk_mem h1)
  subst h2
  intro H locs ls hP hS hl
  obtain ⟨cell, e1, e2, e3, e4, e5, e6, e7⟩ := hE.1 r h3
  exact W.alen hx hb (by rw [hS.2.1 _ (Array.getElem?_eq_some_iff.mp e1).1 e7]; exact e1) e2 (e5.trans (of_nI _).symm) rfl rfl hdg (k H locs ls hP hS hl)
set_option maxHeartbeats 1000000 in
theorem s_gets {X : Sx} {L : Nat} {scr : Int → Int} {p : Program} {l : Launch} {e : Env} {R : Room} {s : State} {m : MethodId} {args : Array Value} {below : List Frame} {meth : Method} {c : Code} {own : String} {cc : ByteArray} {nL ca sl : Nat} {Q : State → Prop} {D : va_G} {cA : Nat → ClassId} {ad : Nat → Nat} {A : Nat → Prop} (F : Fx X L scr p s m args c own cc nL R ca sl D cA ad A) : k_gets X L (xcF scr) (JW p l e R s m args below meth c nL ca sl Q D cA ad A L) := by
  obtain ⟨hx, hb, hml, hown, hts, hK, had, hE, hL, htab, hfd, hkL, hkI, hsg, hnt, hcl, hR1, hR2, hRc, hRs⟩ := F
  intro pc q lp st M i r h1 h2 h3 k
  have hdg := htab _ (lk_mem h1)
  subst h2
  intro H locs ls hP hS hl
  rcases hsg _ (lk_mem h3) with ⟨s1, s2⟩ | ⟨s1, s2⟩
  · subst s1
    exact va_gets hx hb hE.2.1 hS hown (hts _ s2) (fun _ z => z) hdg (k H locs ls hP hS hl)
  · subst s1
    exact va_gets hx hb hE.2.2 hS hown (hts _ s2) (fun _ z => z) hdg (k H locs ls hP hS hl)
set_option maxHeartbeats 1000000 in
theorem s_copy {X : Sx} {L : Nat} {scr : Int → Int} {p : Program} {l : Launch} {e : Env} {R : Room} {s : State} {m : MethodId} {args : Array Value} {below : List Frame} {meth : Method} {c : Code} {own : String} {cc : ByteArray} {nL ca sl : Nat} {Q : State → Prop} {D : va_G} {cA : Nat → ClassId} {ad : Nat → Nat} {A : Nat → Prop} (F : Fx X L scr p s m args c own cc nL R ca sl D cA ad A) : k_copy X L (xcF scr) (JW p l e R s m args below meth c nL ca sl Q D cA ad A L) := by
  obtain ⟨hx, hb, hml, hown, hts, hK, had, hE, hL, htab, hfd, hkL, hkI, hsg, hnt, hcl, hR1, hR2, hRc, hRs⟩ := F
  intro pc q lp st M i r0 r1 n0 n1 sp dp n M2 h1 h2 h3 h4 h5 h6 h7 h8 h9 k
  have hdg := htab _ (lk_mem h1)
  subst h2
  intro H locs ls hP hS hl
  subst h8
  obtain ⟨w1, w2⟩ := hnt _ (lk_mem h3)
  have w1 := w1 rfl
  have he0 := wld_at (ad := ad) (cA := cA) (L := L) (M := M) h6.1
  have he1 := wld_at (ad := ad) (cA := cA) (L := L) (M := M) h6.2
  rw [h4] at he0
  rw [h5] at he1
  have b0 := ((LAY_ok hL r0).2.1 _ _ h4).2
  have b1 := ((LAY_ok hL r1).2.1 _ _ h5).2
  obtain ⟨z1, z2, z3, z4, z5⟩ := h7
  have c1 := of_pos z1 (by omega)
  have c2 := of_pos z2 (by omega)
  have c3 := of_pos z3 (by omega)
  refine va_copyi (ty := .int) hx hb (hml.trans hl.size.symm) hown (hts _ w1.1) (hts _ w1.2.1) (hts _ w1.2.2.1) (hts _ w1.2.2.2) hK hP (had.D cA L M) hS _ _ 0 0 he0 he1 (tysL_at cA (by decide)) (tysL_at cA (by decide)) rfl c1.1 c2.1 c3.1 (by rw [c1.2, c3.2]; omega) (by rw [c2.2, c3.2]; omega) (fun _ _ => rfl) hR1 ?_ hdg (fun H1 locs1 hP1 hD1 hS1 => ?_)
  · have := stk8 ad st h9
    exact Nat.le_trans (Nat.add_le_add_right this _) (Nat.le_trans (by decide) hR2)
  · rw [c1.2, c2.2, c3.2, cpy_of] at hP1
    have hw := wld_set (ad := ad) (cA := cA) (L := L) (M := M) (M' := cpM M r0 sp r1 dp n) h6.2 cpM_ne
    rw [h5, cpM_eq z1 z2 z3] at hw
    exact k H1 locs1 ls (hw ▸ hP1) hS1 hl
set_option maxHeartbeats 1000000 in
theorem s_mmax {X : Sx} {L : Nat} {scr : Int → Int} {p : Program} {l : Launch} {e : Env} {R : Room} {s : State} {m : MethodId} {args : Array Value} {below : List Frame} {meth : Method} {c : Code} {own : String} {cc : ByteArray} {nL ca sl : Nat} {Q : State → Prop} {D : va_G} {cA : Nat → ClassId} {ad : Nat → Nat} {A : Nat → Prop} (F : Fx X L scr p s m args c own cc nL R ca sl D cA ad A) : k_mmax X L (xcF scr) (JW p l e R s m args below meth c nL ca sl Q D cA ad A L) := by
  obtain ⟨hx, hb, hml, hown, hts, hK, had, hE, hL, htab, hfd, hkL, hkI, hsg, hnt, hcl, hR1, hR2, hRc, hRs⟩ := F
  intro pc q lp st M i x y h1 h2 h3 h4 h5 h6 k
  have hdg := htab _ (lk_mem h1)
  subst h2
  intro H locs ls hP hS hl
  obtain ⟨w0, w1, w2, w3⟩ := hnt _ (lk_mem h3)
  have w := w1 rfl
  have h8 := stk8 ad st h6
  exact va_mmax hx hb (hml.trans hl.size.symm) hown (hts _ w.1) (hts _ w.2.1) (hts _ w.2.2.1) (hts _ w.2.2.2) hR1 (by omega) hRc hRs hdg (by have := k H locs ls hP hS hl; simp only [List.map_cons, vp] at this; rw [← of_max h4 h5] at this; exact this)
set_option maxHeartbeats 1000000 in
theorem s_mmin {X : Sx} {L : Nat} {scr : Int → Int} {p : Program} {l : Launch} {e : Env} {R : Room} {s : State} {m : MethodId} {args : Array Value} {below : List Frame} {meth : Method} {c : Code} {own : String} {cc : ByteArray} {nL ca sl : Nat} {Q : State → Prop} {D : va_G} {cA : Nat → ClassId} {ad : Nat → Nat} {A : Nat → Prop} (F : Fx X L scr p s m args c own cc nL R ca sl D cA ad A) : k_mmin X L (xcF scr) (JW p l e R s m args below meth c nL ca sl Q D cA ad A L) := by
  obtain ⟨hx, hb, hml, hown, hts, hK, had, hE, hL, htab, hfd, hkL, hkI, hsg, hnt, hcl, hR1, hR2, hRc, hRs⟩ := F
  intro pc q lp st M i x y h1 h2 h3 h4 h5 h6 k
  have hdg := htab _ (lk_mem h1)
  subst h2
  intro H locs ls hP hS hl
  obtain ⟨w0, w1, w2, w3⟩ := hnt _ (lk_mem h3)
  have w := w2 rfl
  have h8 := stk8 ad st h6
  exact va_mmin hx hb (hml.trans hl.size.symm) hown (hts _ w.1) (hts _ w.2.1) (hts _ w.2.2.1) (hts _ w.2.2.2) hR1 (by omega) hRc hRs hdg (by have := k H locs ls hP hS hl; simp only [List.map_cons, vp] at this; rw [← of_min h4 h5] at this; exact this)
set_option maxHeartbeats 1000000 in
theorem s_mabs {X : Sx} {L : Nat} {scr : Int → Int} {p : Program} {l : Launch} {e : Env} {R : Room} {s : State} {m : MethodId} {args : Array Value} {below : List Frame} {meth : Method} {c : Code} {own : String} {cc : ByteArray} {nL ca sl : Nat} {Q : State → Prop} {D : va_G} {cA : Nat → ClassId} {ad : Nat → Nat} {A : Nat → Prop} (F : Fx X L scr p s m args c own cc nL R ca sl D cA ad A) : k_mabs X L (xcF scr) (JW p l e R s m args below meth c nL ca sl Q D cA ad A L) := by
  obtain ⟨hx, hb, hml, hown, hts, hK, had, hE, hL, htab, hfd, hkL, hkI, hsg, hnt, hcl, hR1, hR2, hRc, hRs⟩ := F
  intro pc q lp st M i x h1 h2 h3 h4 h5 k
  have hdg := htab _ (lk_mem h1)
  subst h2
  intro H locs ls hP hS hl
  obtain ⟨w0, w1, w2, w3⟩ := hnt _ (lk_mem h3)
  have w := w3 rfl
  have h8 := stk8 ad st h5
  exact va_mabs hx hb (hml.trans hl.size.symm) hown (hts _ w.1) (hts _ w.2.1) (hts _ w.2.2.1) (hts _ w.2.2.2) hR1 (by omega) hRc hRs hdg (by have := k H locs ls hP hS hl; simp only [List.map_cons, vp] at this; rw [← of_abs h4] at this; exact this)
set_option maxHeartbeats 1000000 in
theorem s_callVI {X : Sx} {L : Nat} {scr : Int → Int} {p : Program} {l : Launch} {e : Env} {R : Room} {s : State} {m : MethodId} {args : Array Value} {below : List Frame} {meth : Method} {c : Code} {own : String} {cc : ByteArray} {nL ca sl : Nat} {Q : State → Prop} {D : va_G} {cA : Nat → ClassId} {ad : Nat → Nat} {A : Nat → Prop} (F : Fx X L scr p s m args c own cc nL R ca sl D cA ad A) : k_callVI X L (xcF scr) (JW p l e R s m args below meth c nL ca sl Q D cA ad A L) := by
  obtain ⟨hx, hb, hml, hown, hts, hK, had, hE, hL, htab, hfd, hkL, hkI, hsg, hnt, hcl, hR1, hR2, hRc, hRs⟩ := F
  intro pc q lp st M i ci C as r f h1 h2 h3 h4 h5 h6 h7 h8 h9 k
  have hdg := htab _ (lk_mem h1)
  subst h2
  intro H locs ls hP hS hl
  obtain ⟨y, b, mL, ret, d, hM, e1, e2, e3, e4, e5, e6⟩ := hcl _ (lk_mem h3)
  rw [if_pos (ciLt hL h8)] at e6
  obtain ⟨k1, k2, k3, k4⟩ := e6
  have hpl : (parseMethodDescriptor y.desc).map (fun d => d.parameters.length) = some as.length := by
    have z := e4.2.2
    rw [if_pos (ciLt hL h8)] at z
    rw [z, ← h4]
    rfl
  have hM := hM l D cA ad A L scr (wR r :: as) M hL had h4 h6
  unfold QcC at hM
  rw [if_pos h5] at hM
  have he := wld_at (ad := ad) (cA := cA) (L := L) (M := M) h9
  rw [h8] at he
  have hrv := va_recv hK hP (clsL_at (ciLt hL h8)) he
  rw [show (RC ci, TC ci, nfC ci).1 = y.cls from k3.symm] at hrv
  have hcw := cwV (own := own) (index := i) (R := R) (rm := rmD d) (mc := 0) (ms := 0) (ws := .code y b mL ret :: GT) (ws' := GT) (bytes := b) (maxL := mL) (ret := ret) (Ts := GT) (args := args) (s := s) (n := as.length) hts (goodV e1 e2 e3 k1 k2) rfl rfl rfl ⟨rfl, e4.1, e4.2.1, hpl⟩ e5
  rw [List.map_append, List.map_reverse]
  refine va_calli (va_runV (As := as.map (vp ad)) (rest := st.map (vp ad)) ⟨hx, hb, hml, hown, hts⟩ hM hcw ⟨fun a U g mk q => ⟨q.1, q.2.1, va_K.moved (u := U) (U := U.calling g mk a) (Vm.Alike.refl U.vm) q.2.2.1, Ext.moved (u := U) (U := U.calling g mk a) (Vm.Alike.refl U.vm) q.2.2.2⟩, hrv, fun U hU hW => ⟨rfl, by rw [hU]; exact hP, va_K.moved hW.alike hK, by rw [hU]; exact (Ext.moved hW.alike hE).kept (fun a g1 g2 => hS.2.1 a g1 g2)⟩⟩ rfl (by simp) hl.size rfl (lv_room (stk8 ad st h7)) hdg ⟨hRc, hRs⟩) hS (fun _ _ z => z) (fun _ z => z) ?_
  rintro r0 M' t H1 locs1 ht hvm ⟨x, rfl, hp⟩ hB hz hk hS1
  exact k x M' hp H1 locs1 ls (ht ▸ hB) hS1 hl
set_option maxHeartbeats 1000000 in
theorem s_callVN {X : Sx} {L : Nat} {scr : Int → Int} {p : Program} {l : Launch} {e : Env} {R : Room} {s : State} {m : MethodId} {args : Array Value} {below : List Frame} {meth : Method} {c : Code} {own : String} {cc : ByteArray} {nL ca sl : Nat} {Q : State → Prop} {D : va_G} {cA : Nat → ClassId} {ad : Nat → Nat} {A : Nat → Prop} (F : Fx X L scr p s m args c own cc nL R ca sl D cA ad A) : k_callVN X L (xcF scr) (JW p l e R s m args below meth c nL ca sl Q D cA ad A L) := by
  obtain ⟨hx, hb, hml, hown, hts, hK, had, hE, hL, htab, hfd, hkL, hkI, hsg, hnt, hcl, hR1, hR2, hRc, hRs⟩ := F
  intro pc q lp st M i ci C as r f h1 h2 h3 h4 h5 h6 h7 h8 h9 k
  have hdg := htab _ (lk_mem h1)
  subst h2
  intro H locs ls hP hS hl
  obtain ⟨y, b, mL, ret, d, hM, e1, e2, e3, e4, e5, e6⟩ := hcl _ (lk_mem h3)
  rw [if_pos (ciLt hL h8)] at e6
  obtain ⟨k1, k2, k3, k4⟩ := e6
  have hpl : (parseMethodDescriptor y.desc).map (fun d => d.parameters.length) = some as.length := by
    have z := e4.2.2
    rw [if_pos (ciLt hL h8)] at z
    rw [z, ← h4]
    rfl
  have hM := hM l D cA ad A L scr (wR r :: as) M hL had h4 h6
  unfold QcC at hM
  rw [if_neg (by rw [h5]; decide)] at hM
  have he := wld_at (ad := ad) (cA := cA) (L := L) (M := M) h9
  rw [h8] at he
  have hrv := va_recv hK hP (clsL_at (ciLt hL h8)) he
  rw [show (RC ci, TC ci, nfC ci).1 = y.cls from k3.symm] at hrv
  have hcw := cwV (own := own) (index := i) (R := R) (rm := rmD d) (mc := 0) (ms := 0) (ws := .code y b mL ret :: GT) (ws' := GT) (bytes := b) (maxL := mL) (ret := ret) (Ts := GT) (args := args) (s := s) (n := as.length) hts (goodV e1 e2 e3 k1 k2) rfl rfl rfl ⟨rfl, e4.1, e4.2.1, hpl⟩ e5
  rw [List.map_append, List.map_reverse]
  refine va_callv (va_runV (As := as.map (vp ad)) (rest := st.map (vp ad)) ⟨hx, hb, hml, hown, hts⟩ hM hcw ⟨fun a U g mk q => ⟨q.1, q.2.1, va_K.moved (u := U) (U := U.calling g mk a) (Vm.Alike.refl U.vm) q.2.2.1, Ext.moved (u := U) (U := U.calling g mk a) (Vm.Alike.refl U.vm) q.2.2.2⟩, hrv, fun U hU hW => ⟨rfl, by rw [hU]; exact hP, va_K.moved hW.alike hK, by rw [hU]; exact (Ext.moved hW.alike hE).kept (fun a g1 g2 => hS.2.1 a g1 g2)⟩⟩ rfl (by simp) hl.size rfl (lv_room (stk8 ad st h7)) hdg ⟨hRc, hRs⟩) hS (fun _ _ z => z) (fun _ z => z) ?_
  intro M' t H1 locs1 ht hvm hp hB hz hk hS1
  exact k M' hp H1 locs1 ls (ht ▸ hB) hS1 hl
set_option maxHeartbeats 1000000 in
theorem s_callSI {X : Sx} {L : Nat} {scr : Int → Int} {p : Program} {l : Launch} {e : Env} {R : Room} {s : State} {m : MethodId} {args : Array Value} {below : List Frame} {meth : Method} {c : Code} {own : String} {cc : ByteArray} {nL ca sl : Nat} {Q : State → Prop} {D : va_G} {cA : Nat → ClassId} {ad : Nat → Nat} {A : Nat → Prop} (F : Fx X L scr p s m args c own cc nL R ca sl D cA ad A) : k_callSI X L (xcF scr) (JW p l e R s m args below meth c nL ca sl Q D cA ad A L) := by
  obtain ⟨hx, hb, hml, hown, hts, hK, had, hE, hL, htab, hfd, hkL, hkI, hsg, hnt, hcl, hR1, hR2, hRc, hRs⟩ := F
  intro pc q lp st M i ci C as h1 h2 h3 h4 h5 h6 h7 h8 k
  have hdg := htab _ (lk_mem h1)
  subst h2
  intro H locs ls hP hS hl
  obtain ⟨y, b, mL, ret, d, hM, e1, e2, e3, e4, e5, e6⟩ := hcl _ (lk_mem h3)
  rw [if_neg (fun z => by have z : ci < 7 := z; omega)] at e6
  have hpl : (parseMethodDescriptor y.desc).map (fun d => d.parameters.length) = some as.length := by
    have z := e4.2.2
    rw [if_neg (fun z => by have z : ci < 7 := z; omega)] at z
    rw [z, ← h4]
  have hM := hM l D cA ad A L scr (as) M hL had h4 h6
  unfold QcC at hM
  rw [if_pos h5] at hM
  have hcw := callS_of (own := own) (i := i) (R := R) (y := y) (b := b) (mL := mL) (ret := ret) (d := d) (args := args) (s := s) (n := as.length) hts e1 e2 e3 e6.1 ⟨e4.1, e4.2.1, hpl⟩ e5
  rw [List.map_append, List.map_reverse]
  refine va_calli (va_runS (As := as.map (vp ad)) (rest := st.map (vp ad)) ⟨hx, hb, hml, hown, hts⟩ hM hcw ⟨fun a U g mk q => ⟨q.1, q.2.1, va_K.moved (u := U) (U := U.calling g mk a) (Vm.Alike.refl U.vm) q.2.2.1, Ext.moved (u := U) (U := U.calling g mk a) (Vm.Alike.refl U.vm) q.2.2.2⟩, fun U hU hW => ⟨rfl, by rw [hU]; exact hP, va_K.moved hW.alike hK, by rw [hU]; exact (Ext.moved hW.alike hE).kept (fun a g1 g2 => hS.2.1 a g1 g2)⟩⟩ rfl (by simp) hl.size rfl (lv_room (stk8 ad st h7)) hdg ⟨hRc, hRs⟩) hS (fun _ _ z => z) (fun _ z => z) ?_
  rintro r0 M' t H1 locs1 ht hvm ⟨x, rfl, hp⟩ hB hz hk hS1
  exact k x M' hp H1 locs1 ls (ht ▸ hB) hS1 hl
set_option maxHeartbeats 1000000 in
theorem s_callSN {X : Sx} {L : Nat} {scr : Int → Int} {p : Program} {l : Launch} {e : Env} {R : Room} {s : State} {m : MethodId} {args : Array Value} {below : List Frame} {meth : Method} {c : Code} {own : String} {cc : ByteArray} {nL ca sl : Nat} {Q : State → Prop} {D : va_G} {cA : Nat → ClassId} {ad : Nat → Nat} {A : Nat → Prop} (F : Fx X L scr p s m args c own cc nL R ca sl D cA ad A) : k_callSN X L (xcF scr) (JW p l e R s m args below meth c nL ca sl Q D cA ad A L) := by
  obtain ⟨hx, hb, hml, hown, hts, hK, had, hE, hL, htab, hfd, hkL, hkI, hsg, hnt, hcl, hR1, hR2, hRc, hRs⟩ := F
  intro pc q lp st M i ci C as h1 h2 h3 h4 h5 h6 h7 h8 k
  have hdg := htab _ (lk_mem h1)
  subst h2
  intro H locs ls hP hS hl
  obtain ⟨y, b, mL, ret, d, hM, e1, e2, e3, e4, e5, e6⟩ := hcl _ (lk_mem h3)
  rw [if_neg (fun z => by have z : ci < 7 := z; omega)] at e6
  have hpl : (parseMethodDescriptor y.desc).map (fun d => d.parameters.length) = some as.length := by
    have z := e4.2.2
    rw [if_neg (fun z => by have z : ci < 7 := z; omega)] at z
    rw [z, ← h4]
  have hM := hM l D cA ad A L scr (as) M hL had h4 h6
  unfold QcC at hM
  rw [if_neg (by rw [h5]; decide)] at hM
  have hcw := callS_of (own := own) (i := i) (R := R) (y := y) (b := b) (mL := mL) (ret := ret) (d := d) (args := args) (s := s) (n := as.length) hts e1 e2 e3 e6.1 ⟨e4.1, e4.2.1, hpl⟩ e5
  rw [List.map_append, List.map_reverse]
  refine va_callv (va_runS (As := as.map (vp ad)) (rest := st.map (vp ad)) ⟨hx, hb, hml, hown, hts⟩ hM hcw ⟨fun a U g mk q => ⟨q.1, q.2.1, va_K.moved (u := U) (U := U.calling g mk a) (Vm.Alike.refl U.vm) q.2.2.1, Ext.moved (u := U) (U := U.calling g mk a) (Vm.Alike.refl U.vm) q.2.2.2⟩, fun U hU hW => ⟨rfl, by rw [hU]; exact hP, va_K.moved hW.alike hK, by rw [hU]; exact (Ext.moved hW.alike hE).kept (fun a g1 g2 => hS.2.1 a g1 g2)⟩⟩ rfl (by simp) hl.size rfl (lv_room (stk8 ad st h7)) hdg ⟨hRc, hRs⟩) hS (fun _ _ z => z) (fun _ z => z) ?_
  intro M' t H1 locs1 ht hvm hp hB hz hk hS1
  exact k M' hp H1 locs1 ls (ht ▸ hB) hS1 hl
theorem s_gho {X : Sx} {L : Nat} {scr : Int → Int} {p : Program} {l : Launch} {e : Env} {R : Room} {s : State} {m : MethodId} {args : Array Value} {below : List Frame} {meth : Method} {c : Code} {own : String} {cc : ByteArray} {nL ca sl : Nat} {Q : State → Prop} {D : va_G} {cA : Nat → ClassId} {ad : Nat → Nat} {A : Nat → Prop} (F : Fx X L scr p s m args c own cc nL R ca sl D cA ad A) : k_gho X L (xcF scr) (JW p l e R s m args below meth c nL ca sl Q D cA ad A L) := by
  intro pc q lp st M M2 h1 h2 k
  subst h1
  intro H locs ls hP hS hl
  exact k H locs ls (by rw [wld_co (fun r z => h2 r z.1 z.2.1)]; exact hP) hS hl
theorem sound {X : Sx} {L : Nat} {scr : Int → Int} {p : Program} {l : Launch} {e : Env} {R : Room} {s : State} {m : MethodId} {args : Array Value} {below : List Frame} {meth : Method} {c : Code} {own : String} {cc : ByteArray} {nL ca sl : Nat} {Q : State → Prop} {D : va_G} {cA : Nat → ClassId} {ad : Nat → Nat} {A : Nat → Prop} {Qp : Int → Mem → Prop} (F : Fx X L scr p s m args c own cc nL R ca sl D cA ad A) (hr : k_ret X Qp (JW p l e R s m args below meth c nL ca sl Q D cA ad A L)) (hv : k_vret X Qp (JW p l e R s m args below meth c nL ca sl Q D cA ad A L)) : Clo X L (xcF scr) Qp (JW p l e R s m args below meth c nL ca sl Q D cA ad A L) :=
  ⟨s_iconst F, s_bipush F, s_sipush F, s_lconst F, s_ldc2 F, s_ldcw F, s_iload_n F, s_iload F, s_lload_n F, s_lload F, s_aload_n F, s_aload F, s_istore_n F, s_istore F, s_astore_n F, s_astore F, s_lstore_n F, s_lstore F, s_iinc F, s_iadd F, s_isub F, s_imul F, s_idiv F, s_irem F, s_ineg F, s_ishl F, s_ishr F, s_iand F, s_ior F, s_ixor F, s_iushr F, s_land F, s_lor F, s_lushr F, s_lshl F, s_i2l F, s_l2i F, s_i2c F, s_lcmp F, s_dup F, s_dup2 F, s_pop F, s_icmp_eq F, s_if_eq F, s_icmp_ne F, s_if_ne F, s_icmp_lt F, s_if_lt F, s_icmp_ge F, s_if_ge F, s_icmp_gt F, s_if_gt F, s_icmp_le F, s_if_le F, s_goto F, s_eqS F, s_tblIn F, s_tblOut F, s_lookup F, s_getI F, s_getR F, s_putI F, s_iald F, s_cald F, s_zald F, s_iast F, s_cast F, s_zast F, s_aald F, s_ialdX F, s_alenX F, s_gets F, s_copy F, s_mmax F, s_mmin F, s_mabs F, s_callVI F, s_callVN F, s_callSI F, s_callSN F, s_gho F, hr, hv⟩

/-- a contract out of the pure machine -/
theorem mt_of {y : MethodName} {b : ByteArray} {mL : Nat} {ret : Option FieldType} {d : Nat} {C : Ct} (X : Sx) (hy : plainName y.cls = true) (hfin : (ret = some .int ∧ X.2.2.2.2.2.2.2 = 1 ∧ C.2.1 = true) ∨ (ret = some .boolean ∧ X.2.2.2.2.2.2.2 = 2 ∧ C.2.1 = true) ∨ (ret = none ∧ X.2.2.2.2.2.2.2 = 0 ∧ C.2.1 = false))
    (htab : X.1.all (fun e => decide (decode b e.1 = .ok e.2)) = true) (hfd : ∀ e ∈ X.2.1, FdOK y.cls e) (hkL : ∀ e ∈ X.2.2.1, Cond.constantLong y.cls e.1 (Int64.ofInt e.2) ∈ GT) (hkI : ∀ e ∈ X.2.2.2.1, Cond.constant y.cls e.1 (Int32.ofInt e.2) ∈ GT) (hsg : ∀ e ∈ X.2.2.2.2.1, SgOK y.cls e) (hnt : ∀ e ∈ X.2.2.2.2.2.1, NtOK y.cls e) (hcl : ∀ e ∈ X.2.2.2.2.2.2.1, ClOK y.cls (rmD d) e)
    (hlen : ∀ as M, as.length = C.1 → C.2.2.1 as M → (iniL as).length ≤ mL)
    (hrun : ∀ (L : Nat) (scr : Int → Int) (as : List PV) (M : Mem), as.length = C.1 → C.2.2.1 as M → Runs X L (xcF scr) (fun x M' => C.2.2.2 as M x M') 0 (iniN as mL) [] M) : MtOK y b mL ret d C := by
  intro l D cA ad A L scr as M hL had has hpre
  refine Met.ofW (cc := b) (maxL := mL) (ret := ret) hy rfl ?_
  intro p e s m args below meth c s₁ B hml hv
  obtain ⟨rfl, hP, hK, hE⟩ := hv
  have hts0 := atoms_spec (ws := .code y b mL ret :: GT) B.pre
  have hts : ∀ w ∈ GT, w.before (as.map (vp ad)).toArray s = true := fun w hw => hts0 w (List.mem_cons_of_mem _ hw)
  have hown : s.vm.findClass y.cls = some m.cls := findClass_of_methodNamed B.named
  have hlocks := B.notSynchronized
  have hx := B.exec
  have hb := B.bytes
  have hr := B.returns
  have F : Fx X L scr p s m (as.map (vp ad)).toArray c y.cls b mL (headSpec (.code y b mL ret :: GT) (rmD d)).room 0 0 D cA ad A :=
    ⟨hx, hb, hml, hown, hts, hK, had, hE, hL, fun z hz => by simpa using List.all_eq_true.mp htab z hz, hfd, hkL, hkI, hsg, hnt, hcl, by show 1 ≤ d + 1; omega, by show 60 ≤ 60 + 30 * d; omega, Nat.zero_le _, Nat.zero_le _⟩
  rw [lg_entry_eq]
  refine hrun L scr as M has hpre _ (sound (below := below) (meth := meth) (e := e) (l := l) (Q := MQ below (QcC C as M D cA ad A L) (as.map (vp ad)).toArray s 0 0 A) F ?_ ?_) s.heap [] _ hP va_S.rf (LR.ini ad as (hlen as M has hpre))
  · intro pc lp M' x h1 h2 hq H locs ls hP' hS hl
    have hdg := F.2.2.2.2.2.2.2.2.2.1 _ (lk_mem h1)
    have hpost : C.2.1 = true → ∀ t : State, t.heap = H → s.WarmedH t.vm → QcC C as M D cA ad A L (as.map (vp ad)).toArray s (.returned (some (.int (Int32.ofInt x)))) t := by
      intro hans t ht hW
      unfold QcC
      rw [if_pos hans]
      exact ⟨⟨_, M', rfl, ⟨x, rfl, hq⟩, by show va_P D clsL (wld ad cA L M') t.heap; rw [ht]; exact hP'⟩, hS.F ht⟩
    rcases hfin with ⟨hret, hz, hans⟩ | ⟨hret, hz, hans⟩ | ⟨hret, hz, hans⟩
    · subst hret
      exact W.iret (v := Int32.ofInt x) hx hb hr (hpost hans) hS.2.2 hdg
    · subst hret
      refine W.zret (v := Int32.ofInt x) (ty := .boolean) hx hb hr ?_ (hpost hans) hS.2.2 hdg
      rcases h2 with h2 | ⟨-, rfl | rfl⟩
      · rw [hz] at h2
        cases h2
      · decide +kernel
      · decide +kernel
    · rw [hz] at h2
      rcases h2 with h2 | ⟨h2, -⟩ <;> cases h2
  · intro pc lp M' h1 hz' hq H locs ls hP' hS hl
    have hdg := F.2.2.2.2.2.2.2.2.2.1 _ (lk_mem h1)
    rcases hfin with ⟨hret, hz, hans⟩ | ⟨hret, hz, hans⟩ | ⟨hret, hz, hans⟩
    · rw [hz] at hz'
      cases hz'
    · rw [hz] at hz'
      cases hz'
    · subst hret
      refine W.vret hx hb hr (fun t ht hW => ?_) hS.2.2 hdg
      unfold QcC
      rw [if_neg (by rw [hans]; decide)]
      exact ⟨⟨M', rfl, hq, by show va_P D clsL (wld ad cA L M') t.heap; rw [ht]; exact hP'⟩, hS.F ht⟩

