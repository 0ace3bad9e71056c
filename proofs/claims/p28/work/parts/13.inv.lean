/-! WHAT ALWAYS HOLDS of a row -/
def cF (f : Int → Int) (w : Int) : Nat → Int
  | 0 => 0
  | n + 1 => cF f w n + bt_ (f (90 + 9 * (n : Int)) = w) 1
def cU (f : Int → Int) : Nat → Int
  | 0 => 0
  | n + 1 => cU f n + bt_ (f (90 + 9 * (n : Int)) = 2 ∧ f (93 + 9 * (n : Int)) = 0) 1
def Qv (f : Int → Int) (d p : Int) : Prop := 0 ≤ d ∧ d < 3 ∧ 0 ≤ p ∧ p < f (27 + 4 * d)
def Inv (f : Int → Int) : Prop :=
  Bd f ∧ (0 ≤ f 6 ∧ 0 ≤ f 7 ∧ f 7 ≤ 64) ∧ (∀ d, 0 ≤ d → d < 3 → 0 ≤ f (26 + 4 * d) ∧ f (26 + 4 * d) ≤ 3 ∧ 0 ≤ f (27 + 4 * d)) ∧ f 27 + f 31 + f 35 ≤ 16 ∧
  (∀ d p, Qv f d p → 0 ≤ f (38 + 16 * d + p) ∧ f (38 + 16 * d + p) < f 7 ∧ f (90 + 9 * f (38 + 16 * d + p)) = 0) ∧
  (∀ d p d' p', Qv f d p → Qv f d' p' → f (38 + 16 * d + p) = f (38 + 16 * d' + p') → d = d' ∧ p = p') ∧
  (∀ t, 0 ≤ t → t < f 7 → (0 ≤ f (90 + 9 * t) ∧ f (90 + 9 * t) ≤ 3) ∧ (0 ≤ f (93 + 9 * t) ∧ f (93 + 9 * t) < 64) ∧ (f (90 + 9 * t) = 0 → f (93 + 9 * t) = 0 ∧ ∃ d p, Qv f d p ∧ f (38 + 16 * d + p) = t)) ∧
  f 8 = cF f 1 (f 7).toNat ∧ f 9 = cF f 2 (f 7).toNat ∧ f 10 = cF f 3 (f 7).toNat ∧ f 14 = cU f (f 7).toNat
theorem cF_bd (f : Int → Int) (w : Int) : ∀ n : Nat, 0 ≤ cF f w n ∧ cF f w n ≤ n
  | 0 => by show 0 ≤ (0 : Int) ∧ (0 : Int) ≤ 0; omega
  | n + 1 => by
    have := cF_bd f w n
    have h := bt_01 (f (90 + 9 * (n : Int)) = w)
    show 0 ≤ cF f w n + _ ∧ cF f w n + _ ≤ ((n + 1 : Nat) : Int)
    omega
theorem cF_same {f g : Int → Int} {w : Int} : ∀ n : Nat, (∀ t : Int, 0 ≤ t → t < n → g (90 + 9 * t) = f (90 + 9 * t)) → cF g w n = cF f w n
  | 0, _ => rfl
  | n + 1, h => by
    show cF g w n + _ = cF f w n + _
    rw [cF_same n (fun t h1 h2 => h t h1 (by omega)), h n (by omega) (by omega)]
theorem cU_same {f g : Int → Int} : ∀ n : Nat, (∀ t : Int, 0 ≤ t → t < n → g (90 + 9 * t) = f (90 + 9 * t) ∧ g (93 + 9 * t) = f (93 + 9 * t)) → cU g n = cU f n
  | 0, _ => rfl
  | n + 1, h => by
    show cU g n + _ = cU f n + _
    rw [cU_same n (fun t h1 h2 => h t h1 (by omega)), (h n (by omega) (by omega)).1, (h n (by omega) (by omega)).2]
theorem cF_up {f g : Int → Int} {w v t0 : Int} (hv : v ≠ 0) (h0 : f (90 + 9 * t0) = 0) (ht : 0 ≤ t0) : ∀ n : Nat, (∀ t : Int, 0 ≤ t → t < n → g (90 + 9 * t) = if t = t0 then w else f (90 + 9 * t)) → cF g v n = cF f v n + bt_ (t0 < n) (bt_ (w = v) 1)
  | 0, _ => by
    show (0 : Int) = 0 + _
    rw [bt_f (by omega)]
    rfl
  | n + 1, h => by
    show cF g v n + _ = cF f v n + _ + _
    rw [cF_up hv h0 ht n (fun t h1 h2 => h t h1 (by omega)), h n (by omega) (by omega)]
    by_cases e : (n : Int) = t0
    · rw [if_pos e, e, h0, bt_f (show ¬ (t0 < t0) by omega), bt_t (show t0 < ((n + 1 : Nat) : Int) by omega), bt_f (show ¬ ((0 : Int) = v) by omega)]
    · rw [if_neg e]
      by_cases e2 : t0 < n
      · rw [bt_t e2, bt_t (show t0 < ((n + 1 : Nat) : Int) by omega)]
        omega
      · rw [bt_f e2, bt_f (show ¬ t0 < ((n + 1 : Nat) : Int) by omega)]
        omega
theorem cU_up {f g : Int → Int} {w m t0 : Int} (h0 : f (90 + 9 * t0) = 0) (ht : 0 ≤ t0) : ∀ n : Nat, (∀ t : Int, 0 ≤ t → t < n → g (90 + 9 * t) = (if t = t0 then w else f (90 + 9 * t)) ∧ g (93 + 9 * t) = if t = t0 then m else f (93 + 9 * t)) → cU g n = cU f n + bt_ (t0 < n) (bt_ (w = 2 ∧ m = 0) 1)
  | 0, _ => by
    show (0 : Int) = 0 + _
    rw [bt_f (by omega)]
    rfl
  | n + 1, h => by
    show cU g n + _ = cU f n + _ + _
    rw [cU_up h0 ht n (fun t h1 h2 => h t h1 (by omega)), (h n (by omega) (by omega)).1, (h n (by omega) (by omega)).2]
    by_cases e : (n : Int) = t0
    · rw [if_pos e, if_pos e, e, h0, bt_f (show ¬ (t0 < t0) by omega), bt_t (show t0 < ((n + 1 : Nat) : Int) by omega), bt_f (show ¬ ((0 : Int) = 2 ∧ _) by omega)]
    · rw [if_neg e, if_neg e]
      by_cases e2 : t0 < n
      · rw [bt_t e2, bt_t (show t0 < ((n + 1 : Nat) : Int) by omega)]
        omega
      · rw [bt_f e2, bt_f (show ¬ t0 < ((n + 1 : Nat) : Int) by omega)]
        omega
theorem Inv_same {f g : Int → Int} (I : Inv f) (h6 : 0 ≤ g 6) (h1 : ∀ j, 0 ≤ j → j ≤ 10 → j ≠ 6 → g j = f j) (h2 : ∀ j, 14 ≤ j → j < 26 → g j = f j) (h3 : ∀ e, 0 ≤ e → e < 3 → g (26 + 4 * e) = f (26 + 4 * e) ∧ g (27 + 4 * e) = f (27 + 4 * e)) (h4 : ∀ j, 38 ≤ j → j < 86 → g j = f j)
    (h5 : ∀ t, 0 ≤ t → t < 64 → g (86 + 9 * t) = f (86 + 9 * t) ∧ g (87 + 9 * t) = f (87 + 9 * t) ∧ g (88 + 9 * t) = f (88 + 9 * t) ∧ g (89 + 9 * t) = f (89 + 9 * t) ∧ g (90 + 9 * t) = f (90 + 9 * t) ∧ g (93 + 9 * t) = f (93 + 9 * t)) : Inv g := by
  obtain ⟨iB, i7, iC, i16, iD, iE, iF, g8, g9, g10, g14⟩ := I
  have e7 := h1 7 (by omega) (by omega) (by omega)
  have l0 := (h3 0 (by omega) (by omega)).2
  have l1 := (h3 1 (by omega) (by omega)).2
  have l2 := (h3 2 (by omega) (by omega)).2
  have c0 := (iC 0 (by omega) (by omega)).2.2
  have c1 := (iC 1 (by omega) (by omega)).2.2
  have c2 := (iC 2 (by omega) (by omega)).2.2
  have m0 : f (27 + 4 * 0) = f 27 := rfl
  have m1 : f (27 + 4 * 1) = f 31 := rfl
  have m2 : f (27 + 4 * 2) = f 35 := rfl
  have n0 : g (27 + 4 * 0) = g 27 := rfl
  have n1 : g (27 + 4 * 1) = g 31 := rfl
  have n2 : g (27 + 4 * 2) = g 35 := rfl
  have hle : ∀ d, 0 ≤ d → d < 3 → f (27 + 4 * d) ≤ 16 := by
    intro d d0 d1
    have : d = 0 ∨ d = 1 ∨ d = 2 := by omega
    rcases this with rfl | rfl | rfl <;> omega
  have qv : ∀ d p, Qv g d p → Qv f d p := fun d p ⟨a, b, c, e⟩ => ⟨a, b, c, by rw [← (h3 d a b).2]; exact e⟩
  have qe : ∀ d p, Qv g d p → g (38 + 16 * d + p) = f (38 + 16 * d + p) := fun d p q => by
    have := hle d q.1 q.2.1
    obtain ⟨a, b, c, e⟩ := qv d p q
    exact h4 _ (by omega) (by omega)
  refine ⟨?_, ⟨h6, by omega, by omega⟩, fun d a b => ?_, by omega, fun d p q => ?_, fun d p d' p' q q' he => ?_, fun t a b => ?_, ?_, ?_, ?_, ?_⟩
  · exact Bd_keep iB (fun j a b => by
      by_cases e : j = 6
      · omega
      · exact h1 j a (by omega) e) (fun j a b => h2 j (by omega) b) (fun t a b => ⟨(h5 t a b).1, (h5 t a b).2.1, (h5 t a b).2.2.1, (h5 t a b).2.2.2.1⟩)
  · rw [(h3 d a b).1, (h3 d a b).2]
    exact iC d a b
  · obtain ⟨r1, r2, r3⟩ := iD d p (qv d p q)
    rw [qe d p q, (h5 _ r1 (by omega)).2.2.2.2.1, e7]
    exact ⟨r1, r2, r3⟩
  · rw [qe d p q, qe d' p' q'] at he
    exact iE d p d' p' (qv d p q) (qv d' p' q') he
  · rw [e7] at b
    obtain ⟨k0, k1, k2, k3, k4, k5⟩ := h5 t a (by omega)
    rw [k4, k5]
    obtain ⟨r1, r2, r3⟩ := iF t a b
    refine ⟨r1, r2, fun z => ⟨(r3 z).1, ?_⟩⟩
    obtain ⟨d, p, q, e⟩ := (r3 z).2
    have q' : Qv g d p := ⟨q.1, q.2.1, q.2.2.1, by rw [(h3 d q.1 q.2.1).2]; exact q.2.2.2⟩
    exact ⟨d, p, q', by rw [qe d p q']; exact e⟩
  · rw [h1 8 (by omega) (by omega) (by omega), e7, g8]
    exact (cF_same _ (fun t a b => (h5 t a (by omega)).2.2.2.2.1)).symm
  · rw [h1 9 (by omega) (by omega) (by omega), e7, g9]
    exact (cF_same _ (fun t a b => (h5 t a (by omega)).2.2.2.2.1)).symm
  · rw [h1 10 (by omega) (by omega) (by omega), e7, g10]
    exact (cF_same _ (fun t a b => (h5 t a (by omega)).2.2.2.2.1)).symm
  · rw [h2 14 (by omega) (by omega), e7, g14]
    exact (cU_same _ (fun t a b => ⟨(h5 t a (by omega)).2.2.2.2.1, (h5 t a (by omega)).2.2.2.2.2⟩)).symm
theorem Inv.le {f : Int → Int} (I : Inv f) {d : Int} (h0 : 0 ≤ d) (h1 : d < 3) : 0 ≤ f (27 + 4 * d) ∧ f (27 + 4 * d) ≤ 16 := by
  obtain ⟨iB, i7, iC, i16, -⟩ := I
  have c0 := (iC 0 (by omega) (by omega)).2.2
  have c1 := (iC 1 (by omega) (by omega)).2.2
  have c2 := (iC 2 (by omega) (by omega)).2.2
  have m0 : f (27 + 4 * 0) = f 27 := rfl
  have m1 : f (27 + 4 * 1) = f 31 := rfl
  have m2 : f (27 + 4 * 2) = f 35 := rfl
  have : d = 0 ∨ d = 1 ∨ d = 2 := by omega
  rcases this with rfl | rfl | rfl <;> omega
/-- the first trunk of the desk d leaves it, and passes -/
theorem Inv_pass {f g : Int → Int} {d w m : Int} (I : Inv f) (hd : 0 ≤ d ∧ d < 3) (hn : 1 ≤ f (27 + 4 * d)) (hw : 1 ≤ w ∧ w ≤ 3) (hm : 0 ≤ m ∧ m < 64) (p0 : Int) (hp0 : 0 ≤ p0 ∧ p0 < f (27 + 4 * d)) (hB : Bd g) (h6 : g 6 = f 6) (h7 : g 7 = f 7)
    (hh : ∀ e, 0 ≤ e → e < 3 → g (26 + 4 * e) = f (26 + 4 * e)) (hl : ∀ e, 0 ≤ e → e < 3 → g (27 + 4 * e) = f (27 + 4 * e) - bt_ (e = d) 1)
    (hq : ∀ e p, 0 ≤ e → e < 3 → 0 ≤ p → p < f (27 + 4 * e) - bt_ (e = d) 1 → g (38 + 16 * e + p) = f (38 + 16 * e + p + bt_ (e = d ∧ p0 ≤ p) 1))
    (hf : ∀ t, 0 ≤ t → t < 64 → g (90 + 9 * t) = if t = f (38 + 16 * d + p0) then w else f (90 + 9 * t)) (hx : ∀ t, 0 ≤ t → t < 64 → g (93 + 9 * t) = if t = f (38 + 16 * d + p0) then m else f (93 + 9 * t))
    (h8 : g 8 = f 8 + bt_ (w = 1) 1) (h9 : g 9 = f 9 + bt_ (w = 2) 1) (h10 : g 10 = f 10 + bt_ (w = 3) 1) (h14 : g 14 = f 14 + bt_ (w = 2 ∧ m = 0) 1) : Inv g := by
  have hle := fun e a b => I.le (d := e) a b
  obtain ⟨iB, i7, iC, i16, iD, iE, iF, g8, g9, g10, g14⟩ := I
  have q0 : Qv f d p0 := ⟨hd.1, hd.2, hp0.1, hp0.2⟩
  obtain ⟨t0, ht0⟩ : ∃ t0, t0 = f (38 + 16 * d + p0) := ⟨_, rfl⟩
  have d0 := iD d p0 q0
  rw [← ht0] at d0 hf hx
  have b01 := fun e => bt_01 (e = d)
  have l0 := hl 0 (by omega) (by omega)
  have l1 := hl 1 (by omega) (by omega)
  have l2 := hl 2 (by omega) (by omega)
  have m0 : f (27 + 4 * 0) = f 27 := rfl
  have m1 : f (27 + 4 * 1) = f 31 := rfl
  have m2 : f (27 + 4 * 2) = f 35 := rfl
  have n0 : g (27 + 4 * 0) = g 27 := rfl
  have n1 : g (27 + 4 * 1) = g 31 := rfl
  have n2 : g (27 + 4 * 2) = g 35 := rfl
  have x0 := b01 0
  have x1 := b01 1
  have x2 := b01 2
  have qv : ∀ e p, Qv g e p → Qv f e (p + bt_ (e = d ∧ p0 ≤ p) 1) ∧ g (38 + 16 * e + p) = f (38 + 16 * e + (p + bt_ (e = d ∧ p0 ≤ p) 1)) ∧ ¬ (e = d ∧ p + bt_ (e = d ∧ p0 ≤ p) 1 = p0) := by
    intro e p ⟨a, b, c, z⟩
    rw [hl e a b] at z
    have hq := hq e p a b c z
    by_cases h1 : e = d
    · rw [bt_t h1] at z
      by_cases h2 : p0 ≤ p
      · rw [bt_t ⟨h1, h2⟩] at hq ⊢
        exact ⟨⟨a, b, by omega, by omega⟩, by rw [hq]; congr 1; omega, by omega⟩
      · rw [bt_f (fun z => h2 z.2)] at hq ⊢
        exact ⟨⟨a, b, by omega, by omega⟩, by rw [hq]; congr 1; omega, by omega⟩
    · rw [bt_f h1] at z
      rw [bt_f (fun z => h1 z.1)] at hq ⊢
      exact ⟨⟨a, b, by omega, by omega⟩, by rw [hq]; congr 1; omega, fun z => h1 z.1⟩
  refine ⟨hB, ⟨by omega, by omega, by omega⟩, fun e a b => ?_, by omega, fun e p q => ?_, fun e p e' p' q q' he => ?_, fun t a b => ?_, ?_, ?_, ?_, ?_⟩
  · rw [hh e a b, hl e a b]
    have z := iC e a b
    have y := b01 e
    refine ⟨z.1, z.2.1, ?_⟩
    by_cases h1 : e = d
    · subst h1
      rw [bt_t rfl]
      omega
    · rw [bt_f h1]
      omega
  · obtain ⟨r1, r2, r3⟩ := qv e p q
    obtain ⟨s1, s2, s3⟩ := iD _ _ r1
    rw [r2, h7]
    have ne : f (38 + 16 * e + (p + bt_ (e = d ∧ p0 ≤ p) 1)) ≠ t0 := by
      intro z
      rw [ht0] at z
      have := iE _ _ _ _ r1 q0 z
      exact r3 this
    rw [hf _ s1 (by omega), if_neg ne]
    exact ⟨s1, s2, s3⟩
  · obtain ⟨r1, r2, r3⟩ := qv e p q
    obtain ⟨r1', r2', r3'⟩ := qv e' p' q'
    rw [r2, r2'] at he
    obtain ⟨u1, u2⟩ := iE _ _ _ _ r1 r1' he
    subst u1
    refine ⟨rfl, ?_⟩
    by_cases h1 : e = d
    · by_cases h2 : p0 ≤ p
      · by_cases h3 : p0 ≤ p'
        · rw [bt_t ⟨h1, h2⟩, bt_t ⟨h1, h3⟩] at u2
          omega
        · rw [bt_t ⟨h1, h2⟩, bt_f (fun z => h3 z.2)] at u2
          omega
      · by_cases h3 : p0 ≤ p'
        · rw [bt_f (fun z => h2 z.2), bt_t ⟨h1, h3⟩] at u2
          omega
        · rw [bt_f (fun z => h2 z.2), bt_f (fun z => h3 z.2)] at u2
          omega
    · rw [bt_f (fun z => h1 z.1), bt_f (fun z => h1 z.1)] at u2
      omega
  · rw [h7] at b
    rw [hf t a (by omega), hx t a (by omega)]
    obtain ⟨r1, r2, r3⟩ := iF t a b
    by_cases e : t = t0
    · rw [if_pos e, if_pos e]
      exact ⟨by omega, hm, fun z => by omega⟩
    · rw [if_neg e, if_neg e]
      refine ⟨r1, r2, fun z => ⟨(r3 z).1, ?_⟩⟩
      obtain ⟨e1, p, ⟨a1, a2, a3, a4⟩, z2⟩ := (r3 z).2
      by_cases h1 : e1 = d
      · subst h1
        have hne : p ≠ p0 := by
          intro y
          subst y
          exact e (z2.symm.trans ht0.symm)
        by_cases h2 : p < p0
        · refine ⟨e1, p, ⟨a1, a2, a3, by rw [hl _ a1 a2, bt_t rfl]; omega⟩, ?_⟩
          rw [hq e1 p a1 a2 a3 (by rw [bt_t rfl]; omega), bt_f (by omega)]
          rw [← z2]
          congr 1
          omega
        · refine ⟨e1, p - 1, ⟨a1, a2, by omega, by rw [hl _ a1 a2, bt_t rfl]; omega⟩, ?_⟩
          rw [hq e1 (p - 1) a1 a2 (by omega) (by rw [bt_t rfl]; omega), bt_t ⟨rfl, by omega⟩]
          rw [← z2]
          congr 1
          omega
      · refine ⟨e1, p, ⟨a1, a2, a3, by rw [hl _ a1 a2, bt_f h1]; omega⟩, ?_⟩
        rw [hq e1 p a1 a2 a3 (by rw [bt_f h1]; omega), bt_f (fun z => h1 z.1)]
        rw [← z2]
        congr 1
        omega
  · rw [h8, h7, g8, cF_up (f := f) (g := g) (by omega) d0.2.2 d0.1 _ (fun t a b => hf t a (by omega)), bt_t (show t0 < ((f 7).toNat : Int) by omega)]
  · rw [h9, h7, g9, cF_up (f := f) (g := g) (by omega) d0.2.2 d0.1 _ (fun t a b => hf t a (by omega)), bt_t (show t0 < ((f 7).toNat : Int) by omega)]
  · rw [h10, h7, g10, cF_up (f := f) (g := g) (by omega) d0.2.2 d0.1 _ (fun t a b => hf t a (by omega)), bt_t (show t0 < ((f 7).toNat : Int) by omega)]
  · rw [h14, h7, g14, cU_up (f := f) (g := g) d0.2.2 d0.1 _ (fun t a b => ⟨hf t a (by omega), hx t a (by omega)⟩), bt_t (show t0 < ((f 7).toNat : Int) by omega)]
/-- the first trunk of the desk d goes to the end of the next one -/
theorem Inv_join {f g : Int → Int} {d : Int} (I : Inv f) (hd : 0 ≤ d ∧ d < 2) (hn : 1 ≤ f (27 + 4 * d)) (hB : Bd g) (h6 : g 6 = f 6) (h7 : g 7 = f 7)
    (hh : ∀ e, 0 ≤ e → e < 3 → g (26 + 4 * e) = f (26 + 4 * e)) (hl : ∀ e, 0 ≤ e → e < 3 → g (27 + 4 * e) = f (27 + 4 * e) - bt_ (e = d) 1 + bt_ (e = d + 1) 1)
    (hq : ∀ e p, 0 ≤ e → e < 3 → 0 ≤ p → p < f (27 + 4 * e) - bt_ (e = d) 1 → g (38 + 16 * e + p) = f (38 + 16 * e + p + bt_ (e = d) 1)) (hz : g (38 + 16 * (d + 1) + f (27 + 4 * (d + 1))) = f (38 + 16 * d))
    (hf : ∀ t, 0 ≤ t → t < 64 → g (90 + 9 * t) = f (90 + 9 * t)) (hx : ∀ t, 0 ≤ t → t < 64 → g (93 + 9 * t) = f (93 + 9 * t))
    (h8 : g 8 = f 8) (h9 : g 9 = f 9) (h10 : g 10 = f 10) (h14 : g 14 = f 14) : Inv g := by
  have hle := fun e a b => I.le (d := e) a b
  obtain ⟨iB, i7, iC, i16, iD, iE, iF, g8, g9, g10, g14⟩ := I
  have q0 : Qv f d 0 := ⟨hd.1, by omega, by omega, by omega⟩
  have d0 := iD d 0 q0
  rw [Int.add_zero] at d0
  have l0 := hl 0 (by omega) (by omega)
  have l1 := hl 1 (by omega) (by omega)
  have l2 := hl 2 (by omega) (by omega)
  have m0 : f (27 + 4 * 0) = f 27 := rfl
  have m1 : f (27 + 4 * 1) = f 31 := rfl
  have m2 : f (27 + 4 * 2) = f 35 := rfl
  have n0 : g (27 + 4 * 0) = g 27 := rfl
  have n1 : g (27 + 4 * 1) = g 31 := rfl
  have n2 : g (27 + 4 * 2) = g 35 := rfl
  have hsum : g 27 + g 31 + g 35 = f 27 + f 31 + f 35 := by
    have : d = 0 ∨ d = 1 := by omega
    rcases this with rfl | rfl
    · rw [bt_t (show (0 : Int) = 0 from rfl), bt_f (show ¬ ((0 : Int) = 0 + 1) by omega)] at l0
      rw [bt_f (show ¬ ((1 : Int) = 0) by omega), bt_t (show (1 : Int) = 0 + 1 from rfl)] at l1
      rw [bt_f (show ¬ ((2 : Int) = 0) by omega), bt_f (show ¬ ((2 : Int) = 0 + 1) by omega)] at l2
      omega
    · rw [bt_f (show ¬ (0 : Int) = 1 by omega), bt_f (show ¬ ((0 : Int) = 1 + 1) by omega)] at l0
      rw [bt_t (show ((1 : Int) = 1) from rfl), bt_f (show ¬ (1 : Int) = 1 + 1 by omega)] at l1
      rw [bt_f (show ¬ ((2 : Int) = 1) by omega), bt_t (show ((2 : Int) = 1 + 1) from rfl)] at l2
      omega
  -- a place of g is one of f, or the new one
  have qv : ∀ e p, Qv g e p → (Qv f e (p + bt_ (e = d) 1) ∧ g (38 + 16 * e + p) = f (38 + 16 * e + (p + bt_ (e = d) 1)) ∧ ¬ (e = d ∧ p + bt_ (e = d) 1 = 0)) ∨ (e = d + 1 ∧ p = f (27 + 4 * (d + 1)) ∧ g (38 + 16 * e + p) = f (38 + 16 * d)) := by
    intro e p ⟨a, b, c, z⟩
    rw [hl e a b] at z
    by_cases h1 : e = d
    · rw [bt_t h1, bt_f (by omega)] at z
      have hq := hq e p a b c (by rw [bt_t h1]; omega)
      rw [bt_t h1] at hq ⊢
      exact Or.inl ⟨⟨a, b, by omega, by omega⟩, by rw [hq]; congr 1; omega, by omega⟩
    · rw [bt_f h1] at z ⊢
      by_cases h2 : e = d + 1
      · subst h2
        rw [bt_t rfl] at z
        by_cases h3 : p = f (27 + 4 * (d + 1))
        · subst h3
          exact Or.inr ⟨rfl, rfl, hz⟩
        · have hq := hq (d + 1) p a b c (by rw [bt_f h1]; omega)
          rw [bt_f h1] at hq
          exact Or.inl ⟨⟨a, b, by omega, by omega⟩, by rw [hq]; congr 1; omega, fun z => h1 z.1⟩
      · rw [bt_f h2] at z
        have hq := hq e p a b c (by rw [bt_f h1]; omega)
        rw [bt_f h1] at hq
        exact Or.inl ⟨⟨a, b, by omega, by omega⟩, by rw [hq]; congr 1; omega, fun z => h1 z.1⟩
  refine ⟨hB, ⟨by omega, by omega, by omega⟩, fun e a b => ?_, by omega, fun e p q => ?_, fun e p e' p' q q' he => ?_, fun t a b => ?_, ?_, ?_, ?_, ?_⟩
  · rw [hh e a b, hl e a b]
    have z := iC e a b
    have y := bt_01 (e = d + 1)
    refine ⟨z.1, z.2.1, ?_⟩
    by_cases h1 : e = d
    · subst h1
      rw [bt_t (show e = e from rfl)]
      omega
    · rw [bt_f h1]
      omega
  · rcases qv e p q with ⟨r1, r2, r3⟩ | ⟨r1, r2, r3⟩
    · obtain ⟨s1, s2, s3⟩ := iD _ _ r1
      rw [r2, h7, hf _ s1 (by omega)]
      exact ⟨s1, s2, s3⟩
    · rw [r3, h7, hf _ d0.1 (by omega)]
      exact d0
  · rcases qv e p q with ⟨r1, r2, r3⟩ | ⟨r1, r2, r3⟩ <;> rcases qv e' p' q' with ⟨s1, s2, s3⟩ | ⟨s1, s2, s3⟩
    · rw [r2, s2] at he
      obtain ⟨u1, u2⟩ := iE _ _ _ _ r1 s1 he
      subst u1
      exact ⟨rfl, by omega⟩
    · rw [r2, s3] at he
      have := iE _ _ _ _ r1 q0 (by rw [he, Int.add_zero])
      exact absurd this r3
    · rw [r3, s2] at he
      have := iE _ _ _ _ s1 q0 (by rw [← he, Int.add_zero])
      exact absurd this s3
    · exact ⟨by omega, by omega⟩
  · rw [h7] at b
    rw [hf t a (by omega), hx t a (by omega)]
    obtain ⟨r1, r2, r3⟩ := iF t a b
    refine ⟨r1, r2, fun z => ⟨(r3 z).1, ?_⟩⟩
    obtain ⟨e1, p, ⟨a1, a2, a3, a4⟩, z2⟩ := (r3 z).2
    by_cases h1 : e1 = d
    · subst h1
      by_cases h2 : p = 0
      · subst h2
        refine ⟨e1 + 1, f (27 + 4 * (e1 + 1)), ⟨by omega, by omega, (hle _ (by omega) (by omega)).1, ?_⟩, ?_⟩
        · rw [hl _ (by omega) (by omega), bt_f (by omega), bt_t rfl]
          omega
        · rw [hz, ← z2, Int.add_zero]
      · refine ⟨e1, p - 1, ⟨a1, a2, by omega, ?_⟩, ?_⟩
        · rw [hl _ a1 a2, bt_t rfl, bt_f (by omega)]
          omega
        · rw [hq e1 (p - 1) a1 a2 (by omega) (by rw [bt_t rfl]; omega), bt_t rfl, ← z2]
          congr 1
          omega
    · have y := bt_01 (e1 = d + 1)
      refine ⟨e1, p, ⟨a1, a2, a3, ?_⟩, ?_⟩
      · rw [hl _ a1 a2, bt_f h1]
        omega
      · rw [hq e1 p a1 a2 a3 (by rw [bt_f h1]; omega), bt_f h1, ← z2]
        congr 1
        omega
  · rw [h8, h7, g8]
    exact (cF_same _ (fun t a b => hf t a (by omega))).symm
  · rw [h9, h7, g9]
    exact (cF_same _ (fun t a b => hf t a (by omega))).symm
  · rw [h10, h7, g10]
    exact (cF_same _ (fun t a b => hf t a (by omega))).symm
  · rw [h14, h7, g14]
    exact (cU_same _ (fun t a b => ⟨hf t a (by omega), hx t a (by omega)⟩)).symm
theorem rmv_q {f : Int → Int} {d e p p0 : Int} (hd : 0 ≤ d ∧ d < 3) (he : 0 ≤ e ∧ e < 3) (hp : 0 ≤ p) (h0 : 0 ≤ p0) (hm : ∀ e, 0 ≤ e → e < 3 → 0 ≤ f (27 + 4 * e) ∧ f (27 + 4 * e) ≤ 16) (h : p < f (27 + 4 * e) - bt_ (e = d) 1) : rmv f d p0 (38 + 16 * e + p) = f (38 + 16 * e + p + bt_ (e = d ∧ p0 ≤ p) 1) := by
  have m := hm e he.1 he.2
  have m2 := hm d hd.1 hd.2
  unfold rmv
  rw [if_neg (by omega)]
  by_cases h1 : e = d
  · subst h1
    rw [bt_t rfl] at h
    by_cases h2 : p0 ≤ p
    · rw [if_pos (by omega), bt_t ⟨rfl, h2⟩]
    · rw [if_neg (by omega), bt_f (fun z => h2 z.2), Int.add_zero]
  · rw [bt_f h1] at h
    rw [if_neg (by omega), bt_f (fun z => h1 z.1), Int.add_zero]
theorem rmv_l {f : Int → Int} {d e p0 : Int} (hd : 0 ≤ d ∧ d < 3) (he : 0 ≤ e ∧ e < 3) (h0 : 0 ≤ p0) : rmv f d p0 (27 + 4 * e) = f (27 + 4 * e) - bt_ (e = d) 1 := by
  unfold rmv
  by_cases h1 : e = d
  · subst h1
    rw [if_pos rfl, bt_t rfl]
  · rw [if_neg (by omega), if_neg (by omega), bt_f h1]
    omega
theorem lkd_Inv {f : Int → Int} {d : Int} (hd : 0 ≤ d ∧ d < 3) (I : Inv f) : Inv (lkd f d) := by
  have o : ∀ j, j ≠ 28 + 4 * d → lkd f d j = f j := fun j h => lkd_o h
  refine Inv_same I (by rw [o 6 (by omega)]; exact I.2.1.1) (fun j _ _ _ => o j (by omega)) (fun j _ _ => o j (by omega)) (fun e _ _ => ⟨o _ (by omega), o _ (by omega)⟩) (fun j _ _ => o j (by omega)) (fun t _ _ => ⟨o _ (by omega), o _ (by omega), o _ (by omega), o _ (by omega), o _ (by omega), o _ (by omega)⟩)
theorem tks_o {f : Int → Int} {t c w j : Int} (h1 : j ≠ 91 + 9 * t) (h2 : j ≠ w) : tks f t c w j = f j := by
  unfold tks
  rw [us_n h2, us_n h1]
theorem tks_Inv {f : Int → Int} {t c w : Int} (ht : 0 ≤ t) (hw : 11 ≤ w ∧ w ≤ 13) (I : Inv f) : Inv (tks f t c w) := by
  have o : ∀ j, j ≠ 91 + 9 * t → j ≠ w → tks f t c w j = f j := fun j h1 h2 => tks_o h1 h2
  refine Inv_same I (by rw [o 6 (by omega) (by omega)]; exact I.2.1.1) (fun j _ _ _ => o j (by omega) (by omega)) (fun j _ _ => o j (by omega) (by omega)) (fun e _ _ => ⟨o _ (by omega) (by omega), o _ (by omega) (by omega)⟩) (fun j _ _ => o j (by omega) (by omega)) (fun t _ _ => ⟨o _ (by omega) (by omega), o _ (by omega) (by omega), o _ (by omega) (by omega), o _ (by omega) (by omega), o _ (by omega) (by omega), o _ (by omega) (by omega)⟩)
theorem pss_o {f : Int → Int} {d t w j : Int} (h1 : j ≠ 90 + 9 * t) (h2 : j ≠ 29 + 4 * d) (h3 : j ≠ 8) (h4 : j ≠ 9) : pss f d t w j = f j := by
  unfold pss
  rw [us_n (by split <;> assumption), us_n h2, us_n h1]
theorem pss_f {f : Int → Int} {d t w s : Int} (hs : 0 ≤ s) (hd : 0 ≤ d ∧ d < 3) : pss f d t w (90 + 9 * s) = if s = t then w else f (90 + 9 * s) := by
  unfold pss
  rw [us_n (by split <;> omega), us_n (by omega)]
  by_cases h : s = t
  · subst h
    rw [us_s, if_pos rfl]
  · rw [us_n (by omega), if_neg h]
theorem pss_8 {f : Int → Int} {d t w : Int} (ht : 0 ≤ t) (hd : 0 ≤ d ∧ d < 3) (hw : w = 1 ∨ w = 2) : pss f d t w 8 = f 8 + bt_ (w = 1) 1 ∧ pss f d t w 9 = f 9 + bt_ (w = 2) 1 := by
  unfold pss
  rcases hw with rfl | rfl
  · rw [if_pos rfl, bt_t rfl, bt_f (by omega), us_s, us_n (by omega), us_n (by omega), us_n (by omega)]
    exact ⟨rfl, by omega⟩
  · rw [if_neg (by omega), bt_t rfl, bt_f (by omega), us_s, us_n (by omega), us_n (by omega), us_n (by omega)]
    exact ⟨by omega, rfl⟩
/-- what a hand of a desk leaves -/
theorem lkg_Inv {f : Int → Int} {d o : Int} (hd : 0 ≤ d ∧ d < 3) (hn : 1 ≤ f (27 + 4 * d)) (I : Inv f) (hS : ¬ lkS f d o) : Inv (lkg f d) := by
  have hle := fun e a b => I.le (d := e) a b
  have m16 := (hle d hd.1 hd.2).2
  obtain ⟨iB, i7, iC, i16, iD, -⟩ := id I
  have q0 := iD d 0 ⟨hd.1, hd.2, by omega, by omega⟩
  rw [Int.add_zero] at q0
  obtain ⟨q, hq⟩ : ∃ q, q = f (38 + 16 * d) := ⟨_, rfl⟩
  have hz : f (38 + 16 * d + 0) = q := by rw [Int.add_zero, hq]
  rw [← hq] at q0
  have ro : ∀ j, j ≠ 27 + 4 * d → j ≠ 28 + 4 * d → (j < 38 ∨ 86 ≤ j) → rmv (lkd f d) d 0 j = f j := fun j a b c => rl_o hd m16 a b c
  have lo : ∀ j, j ≠ 28 + 4 * d → lkd f d j = f j := fun j h => lkd_o h
  have rB := rl_Bd hd m16 iB
  have rl : ∀ e, 0 ≤ e → e < 3 → rmv (lkd f d) d 0 (27 + 4 * e) = f (27 + 4 * e) - bt_ (e = d) 1 := fun e a b => by rw [rmv_l hd ⟨a, b⟩ (by omega), lo _ (by omega)]
  have rq : ∀ e p, 0 ≤ e → e < 3 → 0 ≤ p → p < f (27 + 4 * e) - bt_ (e = d) 1 → rmv (lkd f d) d 0 (38 + 16 * e + p) = f (38 + 16 * e + p + bt_ (e = d ∧ 0 ≤ p) 1) := by
    intro e p a b c z
    have y := bt_01 (e = d ∧ 0 ≤ p)
    rw [rmv_q hd ⟨a, b⟩ c (by omega) (fun e a b => by rw [lo _ (by omega)]; exact hle e a b) (by rw [lo _ (by omega)]; exact z), lo _ (by omega)]
  unfold lkg
  rw [← hq]
  by_cases hm : msk f q = 0
  · rw [if_pos hm]
    have o : ∀ j, j ≠ 90 + 9 * q → j ≠ 29 + 4 * d → j ≠ 8 → j ≠ 9 → pss (rmv (lkd f d) d 0) d q 1 j = rmv (lkd f d) d 0 j := fun j a b c e => pss_o a b c e
    have p8 := pss_8 (f := rmv (lkd f d) d 0) q0.1 hd (Or.inl rfl)
    refine Inv_pass (w := 1) (m := 0) I hd hn (by omega) (by omega) 0 (by omega) ?_ ?_ ?_ (fun e a b => ?_) (fun e a b => ?_) (fun e p a b c z => ?_) (fun t a b => ?_) (fun t a b => ?_) ?_ ?_ ?_ ?_
    · exact Bd_keep rB (fun j _ _ => o j (by omega) (by omega) (by omega) (by omega)) (fun j _ _ => o j (by omega) (by omega) (by omega) (by omega)) (fun t _ _ => ⟨o _ (by omega) (by omega) (by omega) (by omega), o _ (by omega) (by omega) (by omega) (by omega), o _ (by omega) (by omega) (by omega) (by omega), o _ (by omega) (by omega) (by omega) (by omega)⟩)
    · rw [o 6 (by omega) (by omega) (by omega) (by omega), ro 6 (by omega) (by omega) (by omega)]
    · rw [o 7 (by omega) (by omega) (by omega) (by omega), ro 7 (by omega) (by omega) (by omega)]
    · rw [o _ (by omega) (by omega) (by omega) (by omega), ro _ (by omega) (by omega) (by omega)]
    · rw [o _ (by omega) (by omega) (by omega) (by omega), rl e a b]
    · have y := hle e a b
      have y2 := bt_01 (e = d)
      rw [o _ (by omega) (by omega) (by omega) (by omega), rq e p a b c z]
    · rw [pss_f a hd, hz, ro _ (by omega) (by omega) (by omega)]
    · rw [o _ (by omega) (by omega) (by omega) (by omega), ro _ (by omega) (by omega) (by omega), hz]
      by_cases e : t = q
      · rw [if_pos e, e]
        exact (I.2.2.2.2.2.2.1 q q0.1 q0.2.1).2.2 q0.2.2 |>.1
      · rw [if_neg e]
    · rw [p8.1, ro 8 (by omega) (by omega) (by omega)]
    · rw [p8.2, ro 9 (by omega) (by omega) (by omega)]
    · rw [o 10 (by omega) (by omega) (by omega) (by omega), ro 10 (by omega) (by omega) (by omega), bt_f (by omega)]
      omega
    · rw [o 14 (by omega) (by omega) (by omega) (by omega), ro 14 (by omega) (by omega) (by omega), bt_f (by omega)]
      omega
  rw [if_neg hm]
  by_cases hs : d ≠ 2 ∧ dbt f q ≤ f 0 * (d + 1)
  · rw [if_pos hs]
    have o : ∀ j, j ≠ 90 + 9 * q → j ≠ 29 + 4 * d → j ≠ 8 → j ≠ 9 → j ≠ 91 + 9 * q → j ≠ 11 → pss (tks (rmv (lkd f d) d 0) q (f 1) 11) d q 1 j = rmv (lkd f d) d 0 j := fun j a b c e e2 e3 => by rw [pss_o a b c e, tks_o e2 e3]
    have p8 := pss_8 (f := tks (rmv (lkd f d) d 0) q (f 1) 11) q0.1 hd (Or.inl rfl)
    refine Inv_pass (w := 1) (m := 0) I hd hn (by omega) (by omega) 0 (by omega) ?_ ?_ ?_ (fun e a b => ?_) (fun e a b => ?_) (fun e p a b c z => ?_) (fun t a b => ?_) (fun t a b => ?_) ?_ ?_ ?_ ?_
    · exact Bd_keep rB (fun j _ _ => o j (by omega) (by omega) (by omega) (by omega) (by omega) (by omega)) (fun j _ _ => o j (by omega) (by omega) (by omega) (by omega) (by omega) (by omega)) (fun t _ _ => ⟨o _ (by omega) (by omega) (by omega) (by omega) (by omega) (by omega), o _ (by omega) (by omega) (by omega) (by omega) (by omega) (by omega), o _ (by omega) (by omega) (by omega) (by omega) (by omega) (by omega), o _ (by omega) (by omega) (by omega) (by omega) (by omega) (by omega)⟩)
    · rw [o 6 (by omega) (by omega) (by omega) (by omega) (by omega) (by omega), ro 6 (by omega) (by omega) (by omega)]
    · rw [o 7 (by omega) (by omega) (by omega) (by omega) (by omega) (by omega), ro 7 (by omega) (by omega) (by omega)]
    · rw [o _ (by omega) (by omega) (by omega) (by omega) (by omega) (by omega), ro _ (by omega) (by omega) (by omega)]
    · rw [o _ (by omega) (by omega) (by omega) (by omega) (by omega) (by omega), rl e a b]
    · have y := hle e a b
      have y2 := bt_01 (e = d)
      rw [o _ (by omega) (by omega) (by omega) (by omega) (by omega) (by omega), rq e p a b c z]
    · rw [pss_f a hd, hz, tks_o (by omega) (by omega), ro _ (by omega) (by omega) (by omega)]
    · rw [o _ (by omega) (by omega) (by omega) (by omega) (by omega) (by omega), ro _ (by omega) (by omega) (by omega), hz]
      by_cases e : t = q
      · rw [if_pos e, e]
        exact (I.2.2.2.2.2.2.1 q q0.1 q0.2.1).2.2 q0.2.2 |>.1
      · rw [if_neg e]
    · rw [p8.1, tks_o (by omega) (by omega), ro 8 (by omega) (by omega) (by omega)]
    · rw [p8.2, tks_o (by omega) (by omega), ro 9 (by omega) (by omega) (by omega)]
    · rw [o 10 (by omega) (by omega) (by omega) (by omega) (by omega) (by omega), ro 10 (by omega) (by omega) (by omega), bt_f (by omega)]
      omega
    · rw [o 14 (by omega) (by omega) (by omega) (by omega) (by omega) (by omega), ro 14 (by omega) (by omega) (by omega), bt_f (by omega)]
      omega
  rw [if_neg hs]
  by_cases h2 : d = 2
  · rw [if_pos h2]
    subst h2
    have eR : ∀ j, (86 ≤ j ∨ j < 27) → rmv (lkd f 2) 2 0 j = f j := fun j h => ro j (by omega) (by omega) (by omega)
    generalize rmv (lkd f 2) 2 0 = g at ro rB rl rq eR
    have fb := fmk_bd g q
    have o : ∀ j, j ≠ 90 + 9 * q → j ≠ 37 → j ≠ 8 → j ≠ 9 → j ≠ 14 → j ≠ 12 → j ≠ 91 + 9 * q → j ≠ 93 + 9 * q → opn g q j = g j := fun j a1 a2 a3 a4 a5 a6 a7 a8 => by
      unfold opn
      rw [pss_o a1 (by omega) a3 a4, us_n a5, us_n a6, us_n a7, us_n a8]
    have p8 := pss_8 (f := us (us (us (us g (93 + 9 * q) (fmk g q)) (91 + 9 * q) (g (91 + 9 * q) + g 2 * fnm g q)) 12 (g 12 + g 2 * fnm g q)) 14 (g 14 + bt_ (fmk g q = 0) 1)) (t := q) (d := 2) (w := 2) q0.1 (by omega) (Or.inr rfl)
    refine Inv_pass (w := 2) (m := fmk g q) I hd hn (by omega) fb 0 (by omega) ?_ ?_ ?_ (fun e a b => ?_) (fun e a b => ?_) (fun e p a b c z => ?_) (fun t a b => ?_) (fun t a b => ?_) ?_ ?_ ?_ ?_
    · exact Bd_keep rB (fun j _ _ => o j (by omega) (by omega) (by omega) (by omega) (by omega) (by omega) (by omega) (by omega)) (fun j _ _ => o j (by omega) (by omega) (by omega) (by omega) (by omega) (by omega) (by omega) (by omega)) (fun t _ _ => ⟨o _ (by omega) (by omega) (by omega) (by omega) (by omega) (by omega) (by omega) (by omega), o _ (by omega) (by omega) (by omega) (by omega) (by omega) (by omega) (by omega) (by omega), o _ (by omega) (by omega) (by omega) (by omega) (by omega) (by omega) (by omega) (by omega), o _ (by omega) (by omega) (by omega) (by omega) (by omega) (by omega) (by omega) (by omega)⟩)
    · rw [o 6 (by omega) (by omega) (by omega) (by omega) (by omega) (by omega) (by omega) (by omega), eR 6 (by omega)]
    · rw [o 7 (by omega) (by omega) (by omega) (by omega) (by omega) (by omega) (by omega) (by omega), eR 7 (by omega)]
    · rw [o _ (by omega) (by omega) (by omega) (by omega) (by omega) (by omega) (by omega) (by omega), ro _ (by omega) (by omega) (by omega)]
    · rw [o _ (by omega) (by omega) (by omega) (by omega) (by omega) (by omega) (by omega) (by omega), rl e a b]
    · have y := hle e a b
      have y2 := bt_01 (e = 2)
      rw [o _ (by omega) (by omega) (by omega) (by omega) (by omega) (by omega) (by omega) (by omega), rq e p a b c z]
    · unfold opn
      rw [pss_f a (by omega), hz, us_n (by omega), us_n (by omega), us_n (by omega), us_n (by omega), eR _ (by omega)]
    · unfold opn
      rw [pss_o (by omega) (by omega) (by omega) (by omega), us_n (by omega), us_n (by omega), us_n (by omega), hz]
      by_cases e : t = q
      · subst e
        rw [us_s, if_pos rfl]
      · rw [us_n (by omega), if_neg e, eR _ (by omega)]
    · show opn g q 8 = _
      unfold opn
      rw [p8.1, us_n (by omega), us_n (by omega), us_n (by omega), us_n (by omega), eR 8 (by omega)]
    · show opn g q 9 = _
      unfold opn
      rw [p8.2, us_n (by omega), us_n (by omega), us_n (by omega), us_n (by omega), eR 9 (by omega)]
    · rw [o 10 (by omega) (by omega) (by omega) (by omega) (by omega) (by omega) (by omega) (by omega), eR 10 (by omega), bt_f (by omega)]
      omega
    · unfold opn
      rw [pss_o (by omega) (by omega) (by omega) (by omega), us_s, eR 14 (by omega)]
      congr 1
      unfold bt_
      by_cases e : fmk g q = 0
      · rw [if_pos e, if_pos ⟨rfl, e⟩]
      · rw [if_neg e, if_neg (fun z => e z.2)]
  · rw [if_neg h2]
    have e31 : rmv (lkd f d) d 0 (27 + 4 * (d + 1)) = f (27 + 4 * (d + 1)) := by rw [ro _ (by omega) (by omega) (by omega)]
    have y31 := hle (d + 1) (by omega) (by omega)
    have o : ∀ j, j ≠ 94 + 9 * q → j ≠ 27 + 4 * (d + 1) → j ≠ 38 + 16 * (d + 1) + f (27 + 4 * (d + 1)) → us (jn (rmv (lkd f d) d 0) (d + 1) q) (94 + 9 * q) (f (94 + 9 * q) + 1) j = rmv (lkd f d) d 0 j := fun j a b c => by
      unfold jn
      rw [us_n a, us_n b, us_n (by rw [e31]; exact c)]
    have sm : f (27 + 4 * (d + 1)) < 16 := by
      have c0 := (iC 0 (by omega) (by omega)).2.2
      have c1 := (iC 1 (by omega) (by omega)).2.2
      have c2 := (iC 2 (by omega) (by omega)).2.2
      have m0 : f (27 + 4 * 0) = f 27 := rfl
      have m1 : f (27 + 4 * 1) = f 31 := rfl
      have m2 : f (27 + 4 * 2) = f 35 := rfl
      have : d = 0 ∨ d = 1 := by omega
      rcases this with rfl | rfl
      · show f (27 + 4 * 1) < 16
        omega
      · show f (27 + 4 * 2) < 16
        omega
    refine Inv_join I (by omega) hn ?_ ?_ ?_ (fun e a b => ?_) (fun e a b => ?_) (fun e p a b c z => ?_) ?_ (fun t a b => ?_) (fun t a b => ?_) ?_ ?_ ?_ ?_
    · exact Bd_keep rB (fun j _ _ => o j (by omega) (by omega) (by omega)) (fun j _ _ => o j (by omega) (by omega) (by omega)) (fun t _ _ => ⟨o _ (by omega) (by omega) (by omega), o _ (by omega) (by omega) (by omega), o _ (by omega) (by omega) (by omega), o _ (by omega) (by omega) (by omega)⟩)
    · rw [o 6 (by omega) (by omega) (by omega), ro 6 (by omega) (by omega) (by omega)]
    · rw [o 7 (by omega) (by omega) (by omega), ro 7 (by omega) (by omega) (by omega)]
    · rw [o _ (by omega) (by omega) (by omega), ro _ (by omega) (by omega) (by omega)]
    · by_cases e1 : e = d + 1
      · subst e1
        unfold jn
        rw [us_n (by omega), us_s, e31, bt_f (by omega), bt_t rfl]
        omega
      · rw [o _ (by omega) (by omega) (by omega), rl e a b, bt_f e1]
        omega
    · have y := hle e a b
      have y2 := bt_01 (e = d)
      have hne : ¬ (e = d + 1 ∧ p = f (27 + 4 * (d + 1))) := by
        rintro ⟨u, v⟩
        subst u
        rw [bt_f (by omega)] at z
        omega
      have hne2 : 38 + 16 * e + p ≠ 38 + 16 * (d + 1) + f (27 + 4 * (d + 1)) := by
        intro u
        exact hne ⟨by omega, by omega⟩
      rw [o _ (by omega) (by omega) hne2, rq e p a b c z]
      congr 2
      unfold bt_
      by_cases e : e = d
      · rw [if_pos e, if_pos ⟨e, c⟩]
      · rw [if_neg e, if_neg (fun z => e z.1)]
    · unfold jn
      rw [e31, us_n (by omega), us_n (by omega), us_s, hq]
    · rw [o _ (by omega) (by omega) (by omega), ro _ (by omega) (by omega) (by omega)]
    · rw [o _ (by omega) (by omega) (by omega), ro _ (by omega) (by omega) (by omega)]
    · rw [o _ (by omega) (by omega) (by omega), ro _ (by omega) (by omega) (by omega)]
    · rw [o _ (by omega) (by omega) (by omega), ro _ (by omega) (by omega) (by omega)]
    · rw [o _ (by omega) (by omega) (by omega), ro _ (by omega) (by omega) (by omega)]
    · rw [o _ (by omega) (by omega) (by omega), ro _ (by omega) (by omega) (by omega)]

