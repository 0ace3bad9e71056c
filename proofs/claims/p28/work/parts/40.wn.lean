/-! two rows that are the same in the window stay so -/
theorem Wn.rf {f : Int → Int} : Wn f f := fun _ _ _ => rfl
theorem Wn.us_ {f g : Int → Int} (h : Wn g f) {i x y : Int} (e : x = y) : Wn (us g i x) (us f i y) := fun j a b => by
  subst e
  by_cases z : j = i
  · rw [z, us_s, us_s]
  · rw [us_n z, us_n z, h j a b]
theorem Wn.rmv_ {f g : Int → Int} (h : Wn g f) {d p : Int} (hd : 0 ≤ d ∧ d < 3) (hp : 0 ≤ p) (hw : f (27 + 4 * d) ≤ 16) : Wn (rmv g d p) (rmv f d p) := fun j a b => by
  have e := h (27 + 4 * d) (by omega) (by omega)
  unfold rmv
  rw [e]
  by_cases z : j = 27 + 4 * d
  · rw [if_pos z, if_pos z, h j a b]
  · rw [if_neg z, if_neg z]
    by_cases z2 : 38 + 16 * d + p ≤ j ∧ j < 37 + 16 * d + f (27 + 4 * d)
    · rw [if_pos z2, if_pos z2, h (j + 1) (by omega) (by omega)]
    · rw [if_neg z2, if_neg z2, h j a b]
theorem Wn.lkd_ {f g : Int → Int} (h : Wn g f) {d : Int} (hd : 0 ≤ d ∧ d < 3) : Wn (lkd g d) (lkd f d) := h.us_ (by rw [h _ (by omega) (by omega)])
theorem Wn.tks_ {f g : Int → Int} (h : Wn g f) {t c c2 w : Int} (ht : 0 ≤ t ∧ t < 64) (hw : 11 ≤ w ∧ w ≤ 13) (hc : c = c2) : Wn (tks g t c w) (tks f t c2 w) := by
  subst hc
  unfold tks
  exact (h.us_ (by rw [h _ (by omega) (by omega)])).us_ (by rw [h _ (by omega) (by omega)])
theorem Wn.pss_ {f g : Int → Int} (h : Wn g f) {d t w : Int} (hd : 0 ≤ d ∧ d < 3) : Wn (pss g d t w) (pss f d t w) := by
  unfold pss
  exact ((h.us_ rfl).us_ (by rw [h _ (by omega) (by omega)])).us_ (by rw [h _ (by split <;> omega) (by split <;> omega)])
theorem Wn.jn_ {f g : Int → Int} (h : Wn g f) {d t : Int} (hd : 0 ≤ d ∧ d < 3) : Wn (jn g d t) (jn f d t) := by
  unfold jn
  rw [h (27 + 4 * d) (by omega) (by omega)]
  exact (h.us_ rfl).us_ rfl
theorem Wn.fmk_ {f g : Int → Int} (h : Wn g f) {t : Int} (ht : 0 ≤ t ∧ t < 64) : fmk g t = fmk f t ∧ fnm g t = fnm f t := fmk_cg (h _ (by omega) (by omega)) (h _ (by omega) (by omega)) (h _ (by omega) (by omega))
theorem Wn.opn_ {f g : Int → Int} (h : Wn g f) {t : Int} (ht : 0 ≤ t ∧ t < 64) : Wn (opn g t) (opn f t) := by
  have e := h.fmk_ ht
  unfold opn
  rw [e.1, e.2, h 2 (by omega) (by omega), h 12 (by omega) (by omega), h 14 (by omega) (by omega), h (91 + 9 * t) (by omega) (by omega)]
  exact Wn.pss_ ((((h.us_ rfl).us_ rfl).us_ rfl).us_ rfl) (by omega)
theorem Wn.msk_ {f g : Int → Int} (h : Wn g f) {t : Int} (ht : 0 ≤ t ∧ t < 64) : msk g t = msk f t := msk_cg (h _ (by omega) (by omega)) (h _ (by omega) (by omega)) (h _ (by omega) (by omega))
theorem Wn.dbt_ {f g : Int → Int} (h : Wn g f) (hB : Bd f) {t : Int} (ht : 0 ≤ t ∧ t < 64) : dbt g t = dbt f t := by
  obtain ⟨c0, -⟩ := hB.2.2.2 t ht.1 ht.2
  exact dbt_cg (h _ (by omega) (by omega)) (h _ (by omega) (by omega)) (h _ (by omega) (by omega)) (h _ (by omega) (by omega)) (fun k _ _ => h _ (by omega) (by omega)) (h _ (by omega) (by omega))
theorem Wn.lkg_ {f g : Int → Int} (h : Wn g f) (I : Inv f) {d : Int} (hd : 0 ≤ d ∧ d < 3) (hn : 1 ≤ f (27 + 4 * d)) : Wn (lkg g d) (lkg f d) := by
  have le := I.le hd.1 hd.2
  have i7 := I.i7
  obtain ⟨t, ht⟩ : ∃ t, f (38 + 16 * d) = t := ⟨_, rfl⟩
  have ht2 : g (38 + 16 * d) = t := (h _ (by omega) (by omega)).trans ht
  have q := I.2.2.2.2.1 d 0 ⟨hd.1, hd.2, by omega, by omega⟩
  rw [Int.add_zero, ht] at q
  have tb : 0 ≤ t ∧ t < 64 := by omega
  have em := h.msk_ tb
  have ed := h.dbt_ I.1 tb
  have e0 := h 0 (by omega) (by omega)
  have hl := h.lkd_ hd
  have hr : Wn (rmv (lkd g d) d 0) (rmv (lkd f d) d 0) := hl.rmv_ hd (by omega) (by rw [lkd_o (by omega)]; exact le.2)
  by_cases c1 : msk f t = 0
  · rw [lkg_1 ht c1, lkg_1 ht2 (em.trans c1)]
    exact hr.pss_ hd
  · by_cases c2 : d ≠ 2 ∧ dbt f t ≤ f 0 * (d + 1)
    · rw [lkg_2 ht c1 c2, lkg_2 ht2 (by rw [em]; exact c1) (by rw [ed, e0]; exact c2)]
      exact (hr.tks_ tb (by omega) (h 1 (by omega) (by omega))).pss_ hd
    · by_cases c3 : d = 2
      · subst c3
        rw [lkg_3 ht c1, lkg_3 ht2 (by rw [em]; exact c1)]
        exact hr.opn_ tb
      · rw [lkg_4 ht c1 c3 (by omega), lkg_4 ht2 (by rw [em]; exact c1) c3 (by rw [ed, e0]; omega), h (94 + 9 * t) (by omega) (by omega)]
        exact (hr.jn_ (by omega)).us_ rfl
theorem Wn.hnd_ {d o : Int} (hd : 0 ≤ d ∧ d < 3) : ∀ (n : Nat) (f g : Int → Int), Wn g f → Inv f → Wn (hnd d o n g) (hnd d o n f)
  | 0, f, g, h, _ => h
  | n + 1, f, g, h, I => by
    have e := h (27 + 4 * d) (by omega) (by omega)
    by_cases c : f (27 + 4 * d) ≤ 0
    · rw [hnd_z c, hnd_z (by omega)]
      exact h
    · have le := I.le hd.1 hd.2
      have i7 := I.i7
      have q := I.2.2.2.2.1 d 0 ⟨hd.1, hd.2, by omega, by omega⟩
      rw [Int.add_zero] at q
      have em := h.msk_ (t := f (38 + 16 * d)) (by omega)
      have eS : lkS g d o ↔ lkS f d o := by
        unfold lkS
        rw [h (38 + 16 * d) (by omega) (by omega), em, h 5 (by omega) (by omega), h 9 (by omega) (by omega)]
      by_cases c2 : lkS f d o
      · rw [hnd_s c c2, hnd_s (by omega) (eS.mpr c2)]
        exact h.lkd_ hd
      · rw [hnd_g c c2, hnd_g (by omega) (fun z => c2 (eS.mp z))]
        exact Wn.hnd_ hd n _ _ (h.lkg_ I hd (by omega)) (lkg_Inv (o := o) hd (by omega) I c2)
theorem Wn.hnD_ {f g : Int → Int} (h : Wn g f) (I : Inv f) {d : Int} (hd : 0 ≤ d ∧ d < 3) : Wn (hnD g d) (hnD f d) := by
  unfold hnD
  rw [h 9 (by omega) (by omega), h (26 + 4 * d) (by omega) (by omega)]
  exact Wn.hnd_ hd _ _ _ h I
theorem Wn.dly_ {d : Int} (hd : 0 ≤ d ∧ d < 3) : ∀ (n : Nat) (p : Int) (f g : Int → Int), Wn g f → Inv f → 0 ≤ p → p + n ≤ f (27 + 4 * d) → Wn (dly d n p g) (dly d n p f)
  | 0, p, f, g, h, _, _, _ => h
  | n + 1, p, f, g, h, I, h0, h1 => by
    have le := I.le hd.1 hd.2
    have i7 := I.i7
    have q := I.2.2.2.2.1 d p ⟨hd.1, hd.2, h0, by omega⟩
    show Wn (dly d n (p + 1) (tks g (g (38 + 16 * d + p)) (g 3) 13)) (dly d n (p + 1) (tks f (f (38 + 16 * d + p)) (f 3) 13))
    rw [h (38 + 16 * d + p) (by omega) (by omega)]
    exact Wn.dly_ hd n (p + 1) _ _ (h.tks_ (by omega) (by omega) (h 3 (by omega) (by omega))) (tks_Inv q.1 (by omega) I) (by omega) (by rw [tks_o (by omega) (by omega)]; omega)
theorem Wn.dlD_ {f g : Int → Int} (h : Wn g f) (I : Inv f) {d : Int} (hd : 0 ≤ d ∧ d < 3) : Wn (dlD g d) (dlD f d) := by
  have le := I.le hd.1 hd.2
  unfold dlD
  rw [h (27 + 4 * d) (by omega) (by omega)]
  exact Wn.dly_ hd _ _ _ _ h I (by omega) (by omega)
theorem Wn.tn1_ {f g : Int → Int} (h : Wn g f) (I : Inv f) : Wn (tn1 g) (tn1 f) := by
  rw [tn1_def, tn1_def]
  have d0 : (0 : Int) ≤ 0 ∧ (0 : Int) < 3 := by omega
  have d1 : (0 : Int) ≤ 1 ∧ (1 : Int) < 3 := by omega
  have d2 : (0 : Int) ≤ 2 ∧ (2 : Int) < 3 := by omega
  have I1 : Inv (hnD f 2) := (hnd_Inv (d := 2) (o := f 9) d2 _ f I).1
  have I2 : Inv (hnD (hnD f 2) 1) := (hnd_Inv (d := 1) d1 _ _ I1).1
  have I3 : Inv (hnD (hnD (hnD f 2) 1) 0) := (hnd_Inv (d := 0) d0 _ _ I2).1
  have h3 := ((h.hnD_ I d2).hnD_ I1 d1).hnD_ I2 d0
  have I4 := (dlD_Inv d0 I3).1
  have I5 := (dlD_Inv d1 I4).1
  have h6 := ((h3.dlD_ I3 d0).dlD_ I4 d1).dlD_ I5 d2
  exact h6.us_ (by rw [h6 6 (by omega) (by omega)])
theorem Wn.tnN_ : ∀ (n : Nat) (f g : Int → Int), Wn g f → Inv f → Wn (tnN n g) (tnN n f)
  | 0, f, g, h, _ => h
  | n + 1, f, g, h, I => Wn.tnN_ n _ _ (h.tn1_ I) (tn1_Inv I).1
theorem Wn.psn_ {f g : Int → Int} (h : Wn g f) (I : Inv f) (n : Nat) : psn n g = psn n f := by
  have := Wn.tnN_ n f g h I
  unfold psn
  rw [this 8 (by omega) (by omega), this 9 (by omega) (by omega), h 8 (by omega) (by omega), h 9 (by omega) (by omega)]
theorem Wn.mnd_ {f g : Int → Int} (h : Wn g f) {t w k v : Int} (ht : 0 ≤ t ∧ t < 64) (hw : 0 ≤ w ∧ w < 3) : Wn (mnd g t w k v) (mnd f t w k v) := by
  unfold mnd
  rw [h (87 + 9 * t + w) (by omega) (by omega)]
  exact h.us_ rfl
theorem plc_W {f g : Int → Int} (h : Wn g f) {d t : Int} (hd : 0 ≤ d ∧ d < 3) : ∀ n : Nat, n ≤ 16 → plc g d t n = plc f d t n
  | 0, _ => rfl
  | n + 1, hn => by
    unfold plc
    rw [h (38 + 16 * d + (n : Int)) (by omega) (by omega), plc_W h hd n (by omega)]
theorem plD_W {f g : Int → Int} (h : Wn g f) (I : Inv f) {d t : Int} (hd : 0 ≤ d ∧ d < 3) : plD g d t = plD f d t := by
  have le := I.le hd.1 hd.2
  unfold plD
  rw [h (27 + 4 * d) (by omega) (by omega), plc_W h hd _ (by omega)]
theorem dko_W {f g : Int → Int} (h : Wn g f) (I : Inv f) {t : Int} : ∀ n : Nat, n ≤ 3 → dko g t n = dko f t n
  | 0, _ => rfl
  | n + 1, hn => by
    unfold dko
    rw [plD_W h I (by omega), dko_W h I n (by omega)]
theorem Wn.sbk_ {f g : Int → Int} (h : Wn g f) (I : Inv f) {t : Int} (hd : 0 ≤ dko f t 3 ∧ dko f t 3 < 3) (hp : 0 ≤ plD f (dko f t 3) t) : Wn (sbk g t) (sbk f t) := by
  have le := I.le hd.1 hd.2
  unfold sbk
  rw [dko_W h I 3 (by omega), plD_W h I hd, h 10 (by omega) (by omega)]
  exact ((h.rmv_ hd hp le.2).us_ rfl).us_ rfl
theorem Wn.adm_ {f g : Int → Int} (h : Wn g f) {c up lo tr : Int} : Wn (adm g c up lo tr) (adm f c up lo tr) := by
  unfold adm
  rw [h 7 (by omega) (by omega)]
  refine Wn.jn_ (fun j a b => ?_) (by omega)
  unfold adF
  rw [h 7 (by omega) (by omega), h 6 (by omega) (by omega), h j a b]
