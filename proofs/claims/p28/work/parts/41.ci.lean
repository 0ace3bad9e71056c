/-! THE CLASS AGAINST THE REFERENCE -/
def StO (f : Int → Int) : Prop := Inv f ∧ f 6 ≤ 9999
def CI (M R : Mem) : Prop :=
  RelS M 15 (R 12) ∧ (0 ≤ M 4 1 ∧ M 4 1 < 4) ∧ M 4 2 = R 11 1 ∧ (∀ j, 1 ≤ j → j ≤ R 11 1 → RelS M (ring M (j - 1)) (hs R j)) ∧ True ∧ M 8 1 = R 11 4 ∧ ∀ i, 0 ≤ i → i < R 11 4 → M 9 i = R 14 i
def RI (R : Mem) : Prop :=
  StO (R 12) ∧ (0 ≤ R 11 1 ∧ R 11 1 ≤ 4) ∧ (∀ j, 1 ≤ j → j ≤ R 11 1 → StO (hs R j)) ∧ True ∧ PdM R
def GI (M : Mem) : Prop := CI M M ∧ RI M
/-- what a method of the class has to keep, and to answer -/
def Bo (C : Ct) (as : List PV) (M M' : Mem) (x : Int) : Prop := (∀ r, (r ≤ 2 ∨ 11 ≤ r) → r ≤ 14 → M' r = M r) ∧ ∀ y N, C.2.2.2 as M' y N → x = y ∧ GI N
theorem StO.wn {f g : Int → Int} (h : StO f) (w : ∀ i, 0 ≤ i → i < 662 → g i = f i) : StO g := ⟨Inv_win w h.1, by rw [w 6 (by omega) (by omega)]; exact h.2⟩
theorem RelS.mv {M N : Mem} {a : Nat} {f g : Int → Int} (h : RelS M a f) (hm : ∀ r, a ≤ r → r < a + 22 → N r = M r) (hf : ∀ i, 0 ≤ i → i < 662 → g i = f i) : RelS N a g :=
  (h.off hm).cg (fun i hi => hf i hi.1.1 hi.1.2.1)
theorem ring_b (M : Mem) (j : Int) : 103 ≤ ring M j ∧ ring M j + 22 ≤ 191 := by unfold ring; omega
theorem ring_e {M N : Mem} (h : N 4 1 = M 4 1) (j : Int) : ring N j = ring M j := by unfold ring; rw [h]
def SmC (M M' : Mem) : Prop := (∀ r, r < 191 → r ≠ 8 → r ≠ 10 → (r < 37 ∨ 59 ≤ r) → M' r = M r) ∧ M' 8 1 = M 8 1
def SmR (R N : Mem) : Prop := N 12 = R 12 ∧ N 11 1 = R 11 1 ∧ N 11 4 = R 11 4 ∧ ∀ r, r ≠ 11 → r ≠ 12 → N r = R r
theorem SmC.rf {M : Mem} : SmC M M := ⟨fun _ _ _ _ _ => rfl, rfl⟩
theorem SmR.rf {M : Mem} : SmR M M := ⟨rfl, rfl, rfl, fun _ _ _ => rfl⟩
theorem SmC.k {M M1 : Mem} (h : SpK M M1) : SmC M M1 := ⟨fun r _ a b _ => h.2 r a b, h.1 1 (by omega) (by omega)⟩
theorem SmC.t {M M1 : Mem} (h : FrS M M1 37) : SmC M M1 := ⟨fun r a _ _ b => h r a (by omega), by rw [h 8 (by omega) (by omega)]⟩
theorem SmC.tr {M M1 M2 : Mem} (h : SmC M M1) (k : SmC M1 M2) : SmC M M2 := ⟨fun r a b c d => (k.1 r a b c d).trans (h.1 r a b c d), k.2.trans h.2⟩
theorem SmC.r {M M1 : Mem} (h : SmC M M1) : ∀ r, (r ≤ 2 ∨ 11 ≤ r) → r ≤ 14 → M1 r = M r := fun r a b => h.1 r (by omega) (by omega) (by omega) (by omega)
theorem SmR.s {M M1 : Mem} (h : Sp M M1) : SmR M M1 := ⟨by rw [h.2 12 (by omega)], h.1 1 (by omega) (by omega), h.1 4 (by omega) (by omega), fun r a _ => h.2 r a⟩
theorem SmR.t {M M1 : Mem} (h : Tr M M1) : SmR M M1 := by
  unfold Tr at h
  subst h
  exact SmR.rf
theorem hs_e {M N : Mem} (h : ∀ r, r ≤ 2 ∨ r = 13 → N r = M r) (j : Int) : hs N j = hs M j := h _ (hc_r j)
theorem G_sm {M M1 N : Mem} (g : GI M) (c : SmC M M1) (s : SmR M1 N) : GI N := by
  obtain ⟨⟨c1, c2, c3, c4, c5, c6, c7⟩, r1, r2, r3, r4, r5, r6⟩ := g
  have hC : ∀ r, r < 191 → r ≠ 8 → r ≠ 10 → r ≠ 11 → r ≠ 12 → (r < 37 ∨ 59 ≤ r) → N r = M r := fun r a b d e f i => (s.2.2.2 r e f).trans (c.1 r a b d i)
  have e12 : N 12 = M 12 := by rw [s.1, c.1 12 (by omega) (by omega) (by omega) (by omega)]
  have e11 : M1 11 = M 11 := c.1 11 (by omega) (by omega) (by omega) (by omega)
  have e1 : N 11 1 = M 11 1 := by rw [s.2.1, e11]
  have e4 : N 11 4 = M 11 4 := by rw [s.2.2.1, e11]
  have eh := fun j => hs_e (M := M) (N := N) (fun r z => hC r (by omega) (by omega) (by omega) (by omega) (by omega) (by omega)) j
  have e14 : N 14 = M 14 := hC 14 (by omega) (by omega) (by omega) (by omega) (by omega) (by omega)
  have f4 : N 4 = M 4 := hC 4 (by omega) (by omega) (by omega) (by omega) (by omega) (by omega)
  have f9 : N 9 = M 9 := hC 9 (by omega) (by omega) (by omega) (by omega) (by omega) (by omega)
  have f8 : N 8 1 = M 8 1 := by rw [s.2.2.2 8 (by omega) (by omega), c.2]
  refine ⟨⟨c1.mv (fun r a b => hC r (by omega) (by omega) (by omega) (by omega) (by omega) (by omega)) (fun i a b => by rw [e12]), by rw [f4]; exact c2, by rw [f4, e1]; exact c3, fun j a b => ?_, trivial, by rw [f8, e4]; exact c6, by rw [f9, e14, e4]; exact c7⟩, by rw [e12]; exact r1, by rw [e1]; exact r2, fun j a b => ?_, trivial, ?_⟩
  · rw [e1] at b
    have hr := ring_b M (j - 1)
    rw [ring_e (congrFun f4 1)]
    exact (c4 j a b).mv (fun r _ _ => hC r (by omega) (by omega) (by omega) (by omega) (by omega) (by omega)) (fun i _ _ => by rw [eh])
  · rw [e1] at b
    rw [eh]
    exact r3 j a b
  · unfold PdM
    rw [e4, e14]
    exact ⟨r5, r6⟩
theorem Bo_sm {C : Ct} {as : List PV} {M M1 : Mem} {x : Int} (g : GI M) (c : SmC M M1) (h : ∀ y N, C.2.2.2 as M1 y N → x = y ∧ SmR M1 N) : Bo C as M M1 x :=
  ⟨c.r, fun y N q => ⟨(h y N q).1, G_sm g c (h y N q).2⟩⟩
/-- after the class's keep -/
def Kp4 (M M1 : Mem) : Prop := (∀ f, RelS M 15 f → RelS M1 (ring M (M 4 2)) f) ∧ (∀ r, r < 191 → r ≠ 4 → (r < ring M (M 4 2) ∨ ring M (M 4 2) + 22 ≤ r) → M1 r = M r) ∧ M1 4 2 = (if M 4 2 = 4 then 4 else M 4 2 + 1) ∧ M1 4 1 = (if M 4 2 = 4 then (M 4 1 + 1) % 4 else M 4 1)
theorem Kp4.lo {M M1 : Mem} (h : Kp4 M M1) {r : Nat} (a : r < 103) (b : r ≠ 4) : M1 r = M r := h.2.1 r (by omega) b (Or.inl (by have := ring_b M (M 4 2); omega))
theorem ring_ne {M : Mem} {i j : Int} (hi : 0 ≤ i ∧ i ≤ 4) (hj : 0 ≤ j ∧ j ≤ 4) (h : i < j) (h2 : j < i + 4) (ho : 0 ≤ M 4 1) : ring M i + 22 ≤ ring M j ∨ ring M j + 22 ≤ ring M i := by
  unfold ring
  omega
theorem G_chg {M M1 M2 N : Mem} {n : Int → Int} (g : GI M) (k : Kp4 M M1) (hf : ∀ r, r < 191 → r ≠ 8 → r ≠ 10 → (r < 15 ∨ 37 ≤ r) → M2 r = M1 r) (hn : RelS M2 15 n) (hc : Chg M2 N n) (hF : Fr M2 N) (hO : StO n)
    (h8 : M2 8 1 = N 11 4) (h9 : N 11 4 = 0 ∨ N 11 4 = M 11 4) : GI N := by
  obtain ⟨⟨c1, c2, c3, c4, c5, c6, c7⟩, r1, r2, r3, r4, r5, r6⟩ := g
  obtain ⟨q1, q3, q4⟩ := hc
  have rb := ring_b M (M 4 2)
  have eL : ∀ r, r < 103 → r ≠ 4 → r ≠ 8 → r ≠ 10 → (r < 15 ∨ 37 ≤ r) → M2 r = M r := fun r a b c d e => (hf r (by omega) c d e).trans (k.lo a b)
  have hF2 : ∀ r, 3 ≤ r → (r < 11 ∨ 14 ≤ r) → N r = M2 r := fun r a b => hF r a (by omega) (by omega) (by omega)
  have e12 : M2 12 = M 12 := eL 12 (by omega) (by omega) (by omega) (by omega) (by omega)
  have e11 : M2 11 = M 11 := eL 11 (by omega) (by omega) (by omega) (by omega) (by omega)
  have e14 : N 14 = M 14 := (hF2 14 (by omega) (by omega)).trans (eL 14 (by omega) (by omega) (by omega) (by omega) (by omega))
  have f9 : N 9 = M 9 := (hF2 9 (by omega) (by omega)).trans (eL 9 (by omega) (by omega) (by omega) (by omega) (by omega))
  have f4 : N 4 = M1 4 := (hF2 4 (by omega) (by omega)).trans (hf 4 (by omega) (by omega) (by omega) (by omega))
  have eh := fun j => hs_e (M := M) (N := M2) (fun r z => eL r (by omega) (by omega) (by omega) (by omega) (by omega)) j
  rw [e11] at q3 q4
  rw [e12] at q4
  have k41 := k.2.2.2
  have k42 := k.2.2.1
  rw [c3] at k41 k42
  have n1 : 1 ≤ N 11 1 ∧ N 11 1 ≤ 4 := by rw [q3]; split <;> omega
  have row : ∀ j, 1 ≤ j → j ≤ N 11 1 → RelS N (ring N (j - 1)) (hs N j) ∧ StO (hs N j) := by
    intro j a b
    have q := q4 j a b
    by_cases e : j = N 11 1
    · rw [if_pos e] at q
      have er : ring N (j - 1) = ring M (M 4 2) := by
        unfold ring
        rw [f4, k41, c3, e, q3]
        by_cases z : M 11 1 = 4
        · rw [if_pos z, if_pos z, z]
          omega
        · rw [if_neg z, if_neg z]
          omega
      rw [er, q]
      refine ⟨(k.1 _ c1).mv (fun r x y => (hF2 r (by omega) (by omega)).trans (hf r (by omega) (by omega) (by omega) (by omega))) (fun _ _ _ => rfl), r1⟩
    · rw [if_neg e] at q
      by_cases z : M 11 1 = 4
      · rw [if_pos z, eh] at q
        rw [if_pos z] at q3 k41
        have er : ring N (j - 1) = ring M j := by
          unfold ring
          rw [f4, k41]
          omega
        have rj := ring_b M j
        have ne := ring_ne (M := M) (i := j) (j := 4) (by omega) (by omega) (by omega) (by omega) c2.1
        rw [c3, z] at rb
        have hk := k.2.1
        rw [c3, z] at hk
        have hj := c4 (j + 1) (by omega) (by omega)
        rw [show j + 1 - 1 = j by omega] at hj
        rw [er, q]
        exact ⟨hj.mv (fun r x y => ((hF2 r (by omega) (by omega)).trans (hf r (by omega) (by omega) (by omega) (by omega))).trans (hk r (by omega) (by omega) (by omega))) (fun _ _ _ => rfl), r3 (j + 1) (by omega) (by omega)⟩
      · rw [if_neg z, eh] at q
        rw [if_neg z] at q3 k41
        have er : ring N (j - 1) = ring M (j - 1) := by
          unfold ring
          rw [f4, k41]
        have rj := ring_b M (j - 1)
        have ne := ring_ne (M := M) (i := j - 1) (j := M 11 1) (by omega) (by omega) (by omega) (by omega) c2.1
        rw [c3] at rb
        have hk := k.2.1
        rw [c3] at hk
        rw [er, q]
        exact ⟨(c4 j a (by omega)).mv (fun r x y => ((hF2 r (by omega) (by omega)).trans (hf r (by omega) (by omega) (by omega) (by omega))).trans (hk r (by omega) (by omega) (by omega))) (fun _ _ _ => rfl), r3 j a (by omega)⟩
  refine ⟨⟨hn.mv (fun r a b => hF2 r (by omega) (by omega)) (fun i _ _ => by rw [q1]), ?_, ?_, fun j a b => (row j a b).1, trivial, ?_, fun i a b => ?_⟩, by rw [q1]; exact hO, by omega, fun j a b => (row j a b).2, trivial, ?_⟩
  · rw [f4, k41]
    split <;> omega
  · rw [f4, k42, q3]
  · rw [hF2 8 (by omega) (by omega)]
    exact h8
  · rw [f9, e14]
    exact c7 i a (by omega)
  · unfold PdM
    rw [e14]
    exact ⟨by omega, r6⟩
