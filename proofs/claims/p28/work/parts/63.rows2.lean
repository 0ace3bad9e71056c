/-! LEVEL 2: rows for the calls that only tell; M0 is the memory that values speak of -/
theorem Sme.rf {M : Mem} (g : GI M) : Sme M M := ⟨g, fun _ _ _ => rfl, fun _ _ _ => rfl⟩
theorem Sme.tr {M M1 M2 : Mem} (h : Sme M M1) (k : Sme M1 M2) : Sme M M2 := ⟨k.1, fun r a b => (k.2.1 r a b).trans (h.2.1 r a b), fun r a b => (k.2.2 r a b).trans (h.2.2 r a b)⟩
theorem Sme.e12 {M M1 : Mem} (h : Sme M M1) : M1 12 = M 12 := h.2.1 12 (by omega) (by omega)
theorem Sme.e11 {M M1 : Mem} (h : Sme M M1) : M1 11 = M 11 := h.2.1 11 (by omega) (by omega)
theorem Sme.eh {M M1 : Mem} (h : Sme M M1) (j : Int) : hs M1 j = hs M j := hs_e (fun r z => h.2.1 r (by omega) (by omega)) j
theorem cnV_s {M M1 : Mem} (h : Sme M M1) (w : Int) : cnV M1 (M1 12) w = cnV M (M 12) w := by
  rw [h.e12]
  unfold cnV
  rw [h.e11]
theorem cl2_of {own : String} {R : Room} {i d mL : Nat} {D C : Ct} {y : MethodName} {b : ByteArray} {ret : Option FieldType} (hM : MtOK y b mL ret d C) (h0 : C.2.1 = true) (h00 : C.1 = D.1) (hD : Der C D) (h1 : Cond.methodLink own i y ∈ GT) (h2 : Cond.initialized y.cls ∈ GT) (h3 : Cond.code y b mL ret ∈ GT)
    (h4 : (y.cls ≠ "java/lang/invoke/MethodHandle") ∧ (y.cls ≠ "java/lang/invoke/VarHandle") ∧ (parseMethodDescriptor y.desc).map (fun d => d.parameters.length) = some (C.1 - 1)) (h5 : (rmD d).frames + 1 ≤ R.frames ∧ 8 + (mL + 11) + (rmD d).locals ≤ R.locals) (h6 : Cond.instanceMethod y ∈ GT) (h7 : Cond.selects y.cls y y ∈ GT) (h8 : y.cls = RC 6) : Cl2 own R (i, D) := ⟨y, b, mL, ret, d, C, hM, h0, h00, hD, h1, h2, h3, h4, h5, h6, h7, h8⟩
theorem cw2_of {own : String} {R : Room} {i d mL : Nat} {C : Ct2} {y : MethodName} {b : ByteArray} {ret : Option FieldType} (hM : Mt2 y b mL ret d C) (h1 : Cond.methodLink own i y ∈ GT) (h2 : Cond.initialized y.cls ∈ GT) (h3 : Cond.code y b mL ret ∈ GT)
    (h4 : (y.cls ≠ "java/lang/invoke/MethodHandle") ∧ (y.cls ≠ "java/lang/invoke/VarHandle") ∧ (parseMethodDescriptor y.desc).map (fun d => d.parameters.length) = some C.1) (h5 : (rm2 d C.2.2.1).frames + 1 ≤ R.frames ∧ 8 + (mL + 11) + (rm2 d C.2.2.1).locals ≤ R.locals) (h6 : Cond.static y ∈ GT) : Cw2 own R (i, C) := ⟨y, b, mL, ret, d, hM, h1, h2, h3, h4, h5, h6⟩
theorem O_count {X : Sx2} {L : Nat} {xc : Nat → Int → Int} {ea : Bool} {B : Nat} {Qp : Int → Mem → Prop} {b pc q : Nat} {ls st : List PV} {M0 M : Mem} {i : Nat} {w : Int} {v : Int} (s : Sme M0 M) (hb : Nat.ble b B = true) (h1 : lk X.1 pc = some (.invokevirtual i, 3)) (h2 : pc + 3 = q) (h3 : lk X.2.2.2.1 i = some D_count) (hp : inr w) (hv : cnV M0 (M0 12) w = v) (h6 : Nat.ble (stW st) 8 = true) (k : ∀ M', Sme M0 M' → Run2 X L xc ea B Qp b q ls (wI v :: st) M') : Run2 X L xc ea B Qp b pc ls (wI w :: wR 3 :: st) M := by
  subst hv
  refine T_C1 (C := D_count) hb h1 h2 h3 rfl ⟨w, rfl, s.1, hp⟩ h6 (fun x M' hc => ?_)
  obtain ⟨e, sm⟩ := hc w rfl
  rw [e, cnV_s s]
  exact k M' (s.tr sm)
theorem O_pieces {X : Sx2} {L : Nat} {xc : Nat → Int → Int} {ea : Bool} {B : Nat} {Qp : Int → Mem → Prop} {b pc q : Nat} {ls st : List PV} {M0 M : Mem} {i : Nat} {t w k : Int} {v : Int} (s : Sme M0 M) (hb : Nat.ble b B = true) (h1 : lk X.1 pc = some (.invokevirtual i, 3)) (h2 : pc + 3 = q) (h3 : lk X.2.2.2.1 i = some D_pieces) (hp : hasT (M0 12) t ∧ (0 ≤ w ∧ w < 3) ∧ 0 ≤ k ∧ k < 6) (hv : dig (M0 12 (87 + 9 * t + w)) k = v) (h6 : Nat.ble (stW st) 8 = true) (kk : ∀ M', Sme M0 M' → Run2 X L xc ea B Qp b q ls (wI v :: st) M') : Run2 X L xc ea B Qp b pc ls (wI k :: wI w :: wI t :: wR 3 :: st) M := by
  subst hv
  refine T_C3 (C := D_pieces) hb h1 h2 h3 rfl ⟨t, w, k, rfl, s.1, by rw [s.e12]; exact hp⟩ h6 (fun x M' hc => ?_)
  obtain ⟨e, sm⟩ := hc t w k rfl
  rw [e, s.e12]
  exact kk M' (s.tr sm)
theorem O_alike {X : Sx2} {L : Nat} {xc : Nat → Int → Int} {ea : Bool} {B : Nat} {Qp : Int → Mem → Prop} {b pc q : Nat} {ls st : List PV} {M0 M : Mem} {i : Nat} {t w : Int} {v : Int} (s : Sme M0 M) (hb : Nat.ble b B = true) (h1 : lk X.1 pc = some (.invokevirtual i, 3)) (h2 : pc + 3 = q) (h3 : lk X.2.2.2.1 i = some D_alike) (hp : hasT (M0 12) t ∧ (w = 0 ∨ w = 1)) (hv : bt_ (msk (M0 12) t = 0) 1 = v) (h6 : Nat.ble (stW st) 8 = true) (k : ∀ M', Sme M0 M' → Run2 X L xc ea B Qp b q ls (wI v :: st) M') : Run2 X L xc ea B Qp b pc ls (wI w :: wI t :: wR 3 :: st) M := by
  subst hv
  refine T_C2 (C := D_alike) hb h1 h2 h3 rfl ⟨t, w, rfl, s.1, by rw [s.e12]; exact hp⟩ h6 (fun x M' hc => ?_)
  obtain ⟨e, sm⟩ := hc t w rfl
  rw [e, s.e12]
  exact k M' (s.tr sm)
theorem O_desk {X : Sx2} {L : Nat} {xc : Nat → Int → Int} {ea : Bool} {B : Nat} {Qp : Int → Mem → Prop} {b pc q : Nat} {ls st : List PV} {M0 M : Mem} {i : Nat} {d w : Int} {v : Int} (s : Sme M0 M) (hb : Nat.ble b B = true) (h1 : lk X.1 pc = some (.invokevirtual i, 3)) (h2 : pc + 3 = q) (h3 : lk X.2.2.2.1 i = some D_desk) (hp : (0 ≤ d ∧ d < 3) ∧ 0 ≤ w ∧ w ≤ 4) (hv : dkV (M0 12) d w = v) (h6 : Nat.ble (stW st) 8 = true) (k : ∀ M', Sme M0 M' → Run2 X L xc ea B Qp b q ls (wI v :: st) M') : Run2 X L xc ea B Qp b pc ls (wI w :: wI d :: wR 3 :: st) M := by
  subst hv
  refine T_C2 (C := D_desk) hb h1 h2 h3 rfl ⟨d, w, rfl, s.1, hp⟩ h6 (fun x M' hc => ?_)
  obtain ⟨e, sm⟩ := hc d w rfl
  rw [e, s.e12]
  exact k M' (s.tr sm)
theorem O_mostDoubted {X : Sx2} {L : Nat} {xc : Nat → Int → Int} {ea : Bool} {B : Nat} {Qp : Int → Mem → Prop} {b pc q : Nat} {ls st : List PV} {M0 M : Mem} {i : Nat} {v : Int} (s : Sme M0 M) (hb : Nat.ble b B = true) (h1 : lk X.1 pc = some (.invokevirtual i, 3)) (h2 : pc + 3 = q) (h3 : lk X.2.2.2.1 i = some D_mostDoubted) (hp : True) (hv : mdb (M0 12) (M0 12 7).toNat = v) (h6 : Nat.ble (stW st) 8 = true) (k : ∀ M', Sme M0 M' → Run2 X L xc ea B Qp b q ls (wI v :: st) M') : Run2 X L xc ea B Qp b pc ls (wR 3 :: st) M := by
  subst hv
  refine T_C0 (C := D_mostDoubted) hb h1 h2 h3 rfl ⟨rfl, s.1⟩ h6 (fun x M' hc => ?_)
  obtain ⟨e, sm⟩ := hc rfl
  rw [e, s.e12]
  exact k M' (s.tr sm)
theorem O_ifTurned {X : Sx2} {L : Nat} {xc : Nat → Int → Int} {ea : Bool} {B : Nat} {Qp : Int → Mem → Prop} {b pc q : Nat} {ls st : List PV} {M0 M : Mem} {i : Nat} {n w : Int} {v : Int} (s : Sme M0 M) (hb : Nat.ble b B = true) (h1 : lk X.1 pc = some (.invokevirtual i, 3)) (h2 : pc + 3 = q) (h3 : lk X.2.2.2.1 i = some D_ifTurned) (hp : itOK n w) (hv : itV n w (M0 12) = v) (h6 : Nat.ble (stW st) 8 = true) (k : ∀ M', Sme M0 M' → Run2 X L xc ea B Qp b q ls (wI v :: st) M') : Run2 X L xc ea B Qp b pc ls (wI w :: wI n :: wR 3 :: st) M := by
  subst hv
  refine T_C2 (C := D_ifTurned) hb h1 h2 h3 rfl ⟨n, w, rfl, s.1, hp⟩ h6 (fun x M' hc => ?_)
  obtain ⟨e, sm⟩ := hc n w rfl
  rw [e, s.e12]
  exact k M' (s.tr sm)
theorem O_bestHand {X : Sx2} {L : Nat} {xc : Nat → Int → Int} {ea : Bool} {B : Nat} {Qp : Int → Mem → Prop} {b pc q : Nat} {ls st : List PV} {M0 M : Mem} {i : Nat} {v : Int} (s : Sme M0 M) (hb : Nat.ble b B = true) (h1 : lk X.1 pc = some (.invokevirtual i, 3)) (h2 : pc + 3 = q) (h3 : lk X.2.2.2.1 i = some D_bestHand) (hp : True) (hv : (bhP (M0 12) 3).1 = v) (h6 : Nat.ble (stW st) 8 = true) (k : ∀ M', Sme M0 M' → Run2 X L xc ea B Qp b q ls (wI v :: st) M') : Run2 X L xc ea B Qp b pc ls (wR 3 :: st) M := by
  subst hv
  refine T_C0 (C := D_bestHand) hb h1 h2 h3 rfl ⟨rfl, s.1⟩ h6 (fun x M' hc => ?_)
  obtain ⟨e, sm⟩ := hc rfl
  rw [e, s.e12]
  exact k M' (s.tr sm)
theorem O_leastSmall {X : Sx2} {L : Nat} {xc : Nat → Int → Int} {ea : Bool} {B : Nat} {Qp : Int → Mem → Prop} {b pc q : Nat} {ls st : List PV} {M0 M : Mem} {i : Nat} {v : Int} (s : Sme M0 M) (hb : Nat.ble b B = true) (h1 : lk X.1 pc = some (.invokevirtual i, 3)) (h2 : pc + 3 = q) (h3 : lk X.2.2.2.1 i = some D_leastSmall) (hp : True) (hv : lsm (M0 12) 201 0 = v) (h6 : Nat.ble (stW st) 8 = true) (k : ∀ M', Sme M0 M' → Run2 X L xc ea B Qp b q ls (wI v :: st) M') : Run2 X L xc ea B Qp b pc ls (wR 3 :: st) M := by
  subst hv
  refine T_C0 (C := D_leastSmall) hb h1 h2 h3 rfl ⟨rfl, s.1⟩ h6 (fun x M' hc => ?_)
  obtain ⟨e, sm⟩ := hc rfl
  rw [e, s.e12]
  exact k M' (s.tr sm)
theorem O_trunk {X : Sx2} {L : Nat} {xc : Nat → Int → Int} {ea : Bool} {B : Nat} {Qp : Int → Mem → Prop} {b pc q : Nat} {ls st : List PV} {M0 M : Mem} {i : Nat} {t w : Int} {v : Int} (s : Sme M0 M) (hb : Nat.ble b B = true) (h1 : lk X.1 pc = some (.invokevirtual i, 3)) (h2 : pc + 3 = q) (h3 : lk X.2.2.2.1 i = some D_trunk) (hp : hasT (M0 12) t ∧ inr t ∧ inr w) (hv : trV (M0 12) t w = v) (h6 : Nat.ble (stW st) 8 = true) (k : ∀ M', Sme M0 M' → Run2 X L xc ea B Qp b q ls (wI v :: st) M') : Run2 X L xc ea B Qp b pc ls (wI w :: wI t :: wR 3 :: st) M := by
  subst hv
  refine T_C2 (C := D_trunk) hb h1 h2 h3 rfl ⟨t, w, rfl, s.1, hp.2⟩ h6 (fun x M' hc => ?_)
  obtain ⟨e, sm⟩ := hc t w rfl
  rw [s.e12] at e
  rcases e with ⟨z, e⟩ | ⟨z, e⟩
  · exact absurd hp.1 z
  · rw [e]
    exact k M' (s.tr sm)
theorem O_trunkN {X : Sx2} {L : Nat} {xc : Nat → Int → Int} {ea : Bool} {B : Nat} {Qp : Int → Mem → Prop} {b pc q : Nat} {ls st : List PV} {M0 M : Mem} {i : Nat} {t w : Int} {v : Int} (s : Sme M0 M) (hb : Nat.ble b B = true) (h1 : lk X.1 pc = some (.invokevirtual i, 3)) (h2 : pc + 3 = q) (h3 : lk X.2.2.2.1 i = some D_trunk) (hp : ¬ hasT (M0 12) t ∧ inr t ∧ inr w) (hv : (-1 : Int) = v) (h6 : Nat.ble (stW st) 8 = true) (k : ∀ M', Sme M0 M' → Run2 X L xc ea B Qp b q ls (wI v :: st) M') : Run2 X L xc ea B Qp b pc ls (wI w :: wI t :: wR 3 :: st) M := by
  subst hv
  refine T_C2 (C := D_trunk) hb h1 h2 h3 rfl ⟨t, w, rfl, s.1, hp.2⟩ h6 (fun x M' hc => ?_)
  obtain ⟨e, sm⟩ := hc t w rfl
  rw [s.e12] at e
  rcases e with ⟨z, e⟩ | ⟨z, e⟩
  · rw [e]
    exact k M' (s.tr sm)
  · exact absurd z hp.1
theorem O_untilGone {X : Sx2} {L : Nat} {xc : Nat → Int → Int} {ea : Bool} {B : Nat} {Qp : Int → Mem → Prop} {b pc q : Nat} {ls st : List PV} {M0 M : Mem} {i : Nat} {t : Int} {v : Int} (s : Sme M0 M) (hb : Nat.ble b B = true) (h1 : lk X.1 pc = some (.invokevirtual i, 3)) (h2 : pc + 3 = q) (h3 : lk X.2.2.2.1 i = some D_untilGone) (hp : hasT (M0 12) t ∧ inr t) (hv : unt t 201 0 (M0 12) = v) (h6 : Nat.ble (stW st) 8 = true) (k : ∀ M', Sme M0 M' → Run2 X L xc ea B Qp b q ls (wI v :: st) M') : Run2 X L xc ea B Qp b pc ls (wI t :: wR 3 :: st) M := by
  subst hv
  refine T_C1 (C := D_untilGone) hb h1 h2 h3 rfl ⟨t, rfl, s.1, hp.2⟩ h6 (fun x M' hc => ?_)
  obtain ⟨e, sm⟩ := hc t rfl
  rw [s.e12] at e
  rcases e with ⟨z, e⟩ | ⟨z, e⟩
  · exact absurd hp.1 z
  · rw [e]
    exact k M' (s.tr sm)
theorem O_untilGoneN {X : Sx2} {L : Nat} {xc : Nat → Int → Int} {ea : Bool} {B : Nat} {Qp : Int → Mem → Prop} {b pc q : Nat} {ls st : List PV} {M0 M : Mem} {i : Nat} {t : Int} {v : Int} (s : Sme M0 M) (hb : Nat.ble b B = true) (h1 : lk X.1 pc = some (.invokevirtual i, 3)) (h2 : pc + 3 = q) (h3 : lk X.2.2.2.1 i = some D_untilGone) (hp : ¬ hasT (M0 12) t ∧ inr t) (hv : (-1 : Int) = v) (h6 : Nat.ble (stW st) 8 = true) (k : ∀ M', Sme M0 M' → Run2 X L xc ea B Qp b q ls (wI v :: st) M') : Run2 X L xc ea B Qp b pc ls (wI t :: wR 3 :: st) M := by
  subst hv
  refine T_C1 (C := D_untilGone) hb h1 h2 h3 rfl ⟨t, rfl, s.1, hp.2⟩ h6 (fun x M' hc => ?_)
  obtain ⟨e, sm⟩ := hc t rfl
  rw [s.e12] at e
  rcases e with ⟨z, e⟩ | ⟨z, e⟩
  · rw [e]
    exact k M' (s.tr sm)
  · exact absurd z hp.1
theorem O_fate {X : Sx2} {L : Nat} {xc : Nat → Int → Int} {ea : Bool} {B : Nat} {Qp : Int → Mem → Prop} {b pc q : Nat} {ls st : List PV} {M0 M : Mem} {i : Nat} {t : Int} {v : Int} (s : Sme M0 M) (hb : Nat.ble b B = true) (h1 : lk X.1 pc = some (.invokevirtual i, 3)) (h2 : pc + 3 = q) (h3 : lk X.2.2.2.1 i = some D_fate) (hp : hasT (M0 12) t ∧ inr t) (hv : ftV t (M0 12) = v) (h6 : Nat.ble (stW st) 8 = true) (k : ∀ M', Sme M0 M' → Run2 X L xc ea B Qp b q ls (wI v :: st) M') : Run2 X L xc ea B Qp b pc ls (wI t :: wR 3 :: st) M := by
  subst hv
  refine T_C1 (C := D_fate) hb h1 h2 h3 rfl ⟨t, rfl, s.1, hp.2⟩ h6 (fun x M' hc => ?_)
  obtain ⟨e, sm⟩ := hc t rfl
  rw [s.e12] at e
  rcases e with ⟨z, e⟩ | ⟨z, e⟩
  · exact absurd hp.1 z
  · rw [e]
    exact k M' (s.tr sm)
theorem O_fateN {X : Sx2} {L : Nat} {xc : Nat → Int → Int} {ea : Bool} {B : Nat} {Qp : Int → Mem → Prop} {b pc q : Nat} {ls st : List PV} {M0 M : Mem} {i : Nat} {t : Int} {v : Int} (s : Sme M0 M) (hb : Nat.ble b B = true) (h1 : lk X.1 pc = some (.invokevirtual i, 3)) (h2 : pc + 3 = q) (h3 : lk X.2.2.2.1 i = some D_fate) (hp : ¬ hasT (M0 12) t ∧ inr t) (hv : (-1 : Int) = v) (h6 : Nat.ble (stW st) 8 = true) (k : ∀ M', Sme M0 M' → Run2 X L xc ea B Qp b q ls (wI v :: st) M') : Run2 X L xc ea B Qp b pc ls (wI t :: wR 3 :: st) M := by
  subst hv
  refine T_C1 (C := D_fate) hb h1 h2 h3 rfl ⟨t, rfl, s.1, hp.2⟩ h6 (fun x M' hc => ?_)
  obtain ⟨e, sm⟩ := hc t rfl
  rw [s.e12] at e
  rcases e with ⟨z, e⟩ | ⟨z, e⟩
  · rw [e]
    exact k M' (s.tr sm)
  · exact absurd z hp.1
theorem cnV_0 (M : Mem) (f : Int → Int) : cnV M f 0 = f 0 := rfl
theorem cnV_1 (M : Mem) (f : Int → Int) : cnV M f 1 = f 1 := rfl
theorem cnV_2 (M : Mem) (f : Int → Int) : cnV M f 2 = f 2 := rfl
theorem cnV_3 (M : Mem) (f : Int → Int) : cnV M f 3 = f 3 := rfl
theorem cnV_4 (M : Mem) (f : Int → Int) : cnV M f 4 = f 4 := rfl
theorem cnV_5 (M : Mem) (f : Int → Int) : cnV M f 5 = f 5 := rfl
theorem cnV_6 (M : Mem) (f : Int → Int) : cnV M f 6 = f 6 := rfl
theorem cnV_7 (M : Mem) (f : Int → Int) : cnV M f 7 = f 7 := rfl
theorem cnV_8 (M : Mem) (f : Int → Int) : cnV M f 8 = f 27 + f 31 + f 35 := rfl
theorem cnV_9 (M : Mem) (f : Int → Int) : cnV M f 9 = f 8 := rfl
theorem cnV_10 (M : Mem) (f : Int → Int) : cnV M f 10 = f 9 := rfl
theorem cnV_11 (M : Mem) (f : Int → Int) : cnV M f 11 = f 10 := rfl
theorem cnV_12 (M : Mem) (f : Int → Int) : cnV M f 12 = f 11 := rfl
theorem cnV_13 (M : Mem) (f : Int → Int) : cnV M f 13 = f 12 := rfl
theorem cnV_14 (M : Mem) (f : Int → Int) : cnV M f 14 = f 13 := rfl
theorem cnV_15 (M : Mem) (f : Int → Int) : cnV M f 15 = f 11 + f 12 + f 13 := rfl
theorem cnV_16 (M : Mem) (f : Int → Int) : cnV M f 16 = f 14 := rfl
theorem cnV_18 (M : Mem) (f : Int → Int) : cnV M f 18 = M 11 1 := rfl
theorem trV_0 (f : Int → Int) (t : Int) : trV f t 0 = (f (86 + 9 * t)) := rfl
theorem trV_1 (f : Int → Int) (t : Int) : trV f t 1 = (dko f t 3) := rfl
theorem trV_2 (f : Int → Int) (t : Int) : trV f t 2 = (if dko f t 3 = -6 then -6 else plD f (dko f t 3) t) := rfl
theorem trV_3 (f : Int → Int) (t : Int) : trV f t 3 = (dbt f t) := rfl
theorem trV_4 (f : Int → Int) (t : Int) : trV f t 4 = (msk f t) := rfl
theorem trV_5 (f : Int → Int) (t : Int) : trV f t 5 = (f (91 + 9 * t)) := rfl
theorem trV_6 (f : Int → Int) (t : Int) : trV f t 6 = (f (92 + 9 * t)) := rfl
theorem trV_7 (f : Int → Int) (t : Int) : trV f t 7 = (f (90 + 9 * t)) := rfl
theorem trV_8 (f : Int → Int) (t : Int) : trV f t 8 = (f (93 + 9 * t)) := rfl
theorem trV_9 (f : Int → Int) (t : Int) : trV f t 9 = (f (94 + 9 * t)) := rfl
theorem dkV_0 (f : Int → Int) (d : Int) : dkV f d 0 = f (26 + 4 * d) := rfl
theorem dkV_1 (f : Int → Int) (d : Int) : dkV f d 1 = f (27 + 4 * d) := rfl
theorem dkV_2 (f : Int → Int) (d : Int) : dkV f d 2 = sdD f d := rfl
theorem dkV_3 (f : Int → Int) (d : Int) : dkV f d 3 = f (28 + 4 * d) := rfl
theorem dkV_4 (f : Int → Int) (d : Int) : dkV f d 4 = f (29 + 4 * d) := rfl
theorem pcV_0 (f : Int → Int) (t k : Int) : dig (f (87 + 9 * t + 0)) k = dig (f (87 + 9 * t)) k := by rw [Int.add_zero]
theorem pcV_1 (f : Int → Int) (t k : Int) : dig (f (87 + 9 * t + 1)) k = dig (f (88 + 9 * t)) k := by rw [show 87 + 9 * t + 1 = 88 + 9 * t by omega]
theorem pcV_2 (f : Int → Int) (t k : Int) : dig (f (87 + 9 * t + 2)) k = dig (f (89 + 9 * t)) k := by rw [show 87 + 9 * t + 2 = 89 + 9 * t by omega]
theorem Chd.e12 {M M1 : Mem} {g : Int → Int} (h : Chd M M1 g) : M1 12 = g := h.2.1.1
theorem Chd.sz {M M1 : Mem} {g : Int → Int} (h : Chd M M1 g) : M1 11 1 = (if M 11 1 = 4 then 4 else M 11 1 + 1) := h.2.1.2.1
theorem Chd.hl {M M1 : Mem} {g : Int → Int} (h : Chd M M1 g) (h0 : 0 ≤ M 11 1) : 1 ≤ M1 11 1 ∧ hs M1 (M1 11 1) = M 12 := by
  have a := h.sz
  have n0 : 1 ≤ M1 11 1 := by rw [a]; split <;> omega
  exact ⟨n0, by rw [h.2.1.2.2 _ n0 (Int.le_refl _), if_pos rfl]⟩
