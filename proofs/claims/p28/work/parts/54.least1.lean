/-! WHO WAITS WHERE, over a turn -/
def mem (f : Int → Int) (e t : Int) : Prop := ∃ p, Qv f e p ∧ f (38 + 16 * e + p) = t
def HO (f : Int → Int) (d : Int) : Prop := d ≠ 2 ∧ msk f (f (38 + 16 * d)) ≠ 0 ∧ f 0 * (d + 1) < dbt f (f (38 + 16 * d))
def mu (f : Int → Int) : Int := 3 * f 27 + 2 * f 31 + f 35
theorem lkg_q {f : Int → Int} {d : Int} (hd : 0 ≤ d ∧ d < 3) (hn : 1 ≤ f (27 + 4 * d)) (I : Inv f) :
    (¬ HO f d → ∀ j, 26 ≤ j → j < 86 → j ≠ 29 + 4 * d → lkg f d j = rmv (lkd f d) d 0 j) ∧ (HO f d → ∀ j, 26 ≤ j → j < 86 → lkg f d j = jn (rmv (lkd f d) d 0) (d + 1) (f (38 + 16 * d)) j) ∧
    lkg f d 9 = f 9 + bt_ (d = 2 ∧ msk f (f (38 + 16 * d)) ≠ 0) 1 := by
  have le := I.le hd.1 hd.2
  have q0 := I.2.2.2.2.1 d 0 ⟨hd.1, hd.2, by omega, by omega⟩
  rw [Int.add_zero] at q0
  obtain ⟨t, ht⟩ : ∃ t, f (38 + 16 * d) = t := ⟨_, rfl⟩
  have e9 : rmv (lkd f d) d 0 9 = f 9 := rl_o hd le.2 (by omega) (by omega) (by omega)
  unfold HO
  rw [ht] at q0 ⊢
  by_cases h : msk f t = 0
  · rw [lkg_1 ht h]
    refine ⟨fun _ j a b c => pss_o (by omega) c (by omega) (by omega), fun z => absurd h z.2.1, ?_⟩
    rw [(pss_8 (f := rmv (lkd f d) d 0) q0.1 hd (Or.inl rfl)).2, e9, bt_f (by omega), bt_f (fun z => z.2 h)]
  · by_cases h2 : d ≠ 2 ∧ dbt f t ≤ f 0 * (d + 1)
    · rw [lkg_2 ht h h2]
      refine ⟨fun _ j a b c => by rw [pss_o (by omega) c (by omega) (by omega), tks_o (by omega) (by omega)], fun z => absurd z.2.2 (by omega), ?_⟩
      rw [(pss_8 (f := tks (rmv (lkd f d) d 0) t (f 1) 11) q0.1 hd (Or.inl rfl)).2, tks_o (by omega) (by omega), e9, bt_f (by omega), bt_f (fun z => h2.1 z.1)]
    · by_cases h3 : d = 2
      · subst h3
        rw [lkg_3 ht h]
        refine ⟨fun _ j a b c => ?_, fun z => absurd rfl z.1, ?_⟩
        · unfold opn
          rw [pss_o (by omega) c (by omega) (by omega), us_n (by omega), us_n (by omega), us_n (by omega), us_n (by omega)]
        · unfold opn
          rw [(pss_8 q0.1 hd (Or.inr rfl)).2, us_n (by omega), us_n (by omega), us_n (by omega), us_n (by omega), e9, bt_t rfl, bt_t ⟨rfl, h⟩]
      · have h4 : ¬ dbt f t ≤ f 0 * (d + 1) := fun z => h2 ⟨h3, z⟩
        rw [lkg_4 ht h h3 h4]
        refine ⟨fun z => absurd ⟨h3, h, by omega⟩ z, fun _ j a b => us_n (by omega), ?_⟩
        have l1 := I.le (d := d + 1) (by omega) (by omega)
        have ew : rmv (lkd f d) d 0 (27 + 4 * (d + 1)) = f (27 + 4 * (d + 1)) := rl_o hd le.2 (by omega) (by omega) (by omega)
        rw [us_n (by omega), bt_f (fun z => h3 z.1)]
        unfold jn
        rw [us_n (by omega), us_n (by rw [ew]; omega), e9]
        omega
theorem rl_l {f : Int → Int} {d e : Int} (hd : 0 ≤ d ∧ d < 3) (he : 0 ≤ e ∧ e < 3) : rmv (lkd f d) d 0 (27 + 4 * e) = f (27 + 4 * e) - bt_ (e = d) 1 := by
  rw [rmv_l hd he (by omega), lkd_o (by omega)]
theorem rl_q {f : Int → Int} {d e p : Int} (I : Inv f) (hd : 0 ≤ d ∧ d < 3) (he : 0 ≤ e ∧ e < 3) (hp : 0 ≤ p) (h : p < f (27 + 4 * e) - bt_ (e = d) 1) : rmv (lkd f d) d 0 (38 + 16 * e + p) = f (38 + 16 * e + (p + bt_ (e = d) 1)) := by
  have hle := fun e a b => I.le (d := e) a b
  have b := bt_01 (e = d)
  have b2 : bt_ (e = d ∧ 0 ≤ p) 1 = bt_ (e = d) 1 := by
    by_cases z : e = d
    · rw [bt_t z, bt_t ⟨z, hp⟩]
    · rw [bt_f z, bt_f (fun y => z y.1)]
  have l := hle e he.1 he.2
  rw [rmv_q hd he hp (by omega) (fun e a b => by rw [lkd_o (by omega)]; exact hle e a b) (by rw [lkd_o (by omega)]; exact h), b2, lkd_o (by omega)]
  congr 1
  omega
theorem lkg_len {f : Int → Int} {d : Int} (hd : 0 ≤ d ∧ d < 3) (hn : 1 ≤ f (27 + 4 * d)) (I : Inv f) {e : Int} (he : 0 ≤ e ∧ e < 3) :
    (¬ HO f d → lkg f d (27 + 4 * e) = f (27 + 4 * e) - bt_ (e = d) 1) ∧ (HO f d → lkg f d (27 + 4 * e) = f (27 + 4 * e) - bt_ (e = d) 1 + bt_ (e = d + 1) 1) := by
  obtain ⟨a, b, -⟩ := lkg_q hd hn I
  have l := I.le he.1 he.2
  refine ⟨fun z => by rw [a z _ (by omega) (by omega) (by omega), rl_l hd he], fun z => ?_⟩
  have d2 := z.1
  have l1 := I.le (d := d + 1) (by omega) (by omega)
  rw [b z _ (by omega) (by omega)]
  unfold jn
  rw [rl_l hd (e := d + 1) (by omega), bt_f (show ¬ d + 1 = d by omega)]
  by_cases y : e = d + 1
  · subst y
    rw [us_s, bt_t rfl, bt_f (by omega)]
  · rw [us_n (by omega), us_n (by omega), rl_l hd he, bt_f y]
    omega
theorem lkg_mu {f : Int → Int} {d : Int} (hd : 0 ≤ d ∧ d < 3) (hn : 1 ≤ f (27 + 4 * d)) (I : Inv f) : mu (lkg f d) ≤ mu f - 1 := by
  have l0 := lkg_len hd hn I (e := 0) (by omega)
  have l1 := lkg_len hd hn I (e := 1) (by omega)
  have l2 := lkg_len hd hn I (e := 2) (by omega)
  have m0 : f (27 + 4 * 0) = f 27 := rfl
  have m1 : f (27 + 4 * 1) = f 31 := rfl
  have m2 : f (27 + 4 * 2) = f 35 := rfl
  have n0 : lkg f d (27 + 4 * 0) = lkg f d 27 := rfl
  have n1 : lkg f d (27 + 4 * 1) = lkg f d 31 := rfl
  have n2 : lkg f d (27 + 4 * 2) = lkg f d 35 := rfl
  rw [m0, n0] at l0
  rw [m1, n1] at l1
  rw [m2, n2] at l2
  unfold mu
  have dd : d = 0 ∨ d = 1 ∨ d = 2 := by omega
  by_cases h : HO f d
  · have h2 := h.1
    have l0 := l0.2 h
    have l1 := l1.2 h
    have l2 := l2.2 h
    rcases dd with rfl | rfl | rfl
    · rw [bt_t rfl, bt_f (by omega)] at l0
      rw [bt_f (by omega), bt_t (by omega)] at l1
      rw [bt_f (by omega), bt_f (by omega)] at l2
      omega
    · rw [bt_f (by omega), bt_f (by omega)] at l0
      rw [bt_t rfl, bt_f (by omega)] at l1
      rw [bt_f (by omega), bt_t (by omega)] at l2
      omega
    · exact absurd rfl h2
  · have l0 := l0.1 h
    have l1 := l1.1 h
    have l2 := l2.1 h
    rcases dd with rfl | rfl | rfl
    · rw [bt_t rfl] at l0
      rw [bt_f (by omega)] at l1 l2
      omega
    · rw [bt_t rfl] at l1
      rw [bt_f (by omega)] at l0 l2
      omega
    · rw [bt_t rfl] at l2
      rw [bt_f (by omega)] at l0 l1
      omega
theorem Inv.nx {f : Int → Int} {d : Int} (hd : 0 ≤ d ∧ d < 2) (hn : 1 ≤ f (27 + 4 * d)) (I : Inv f) : f (27 + 4 * (d + 1)) < 16 := by
  have i16 := I.2.2.2.1
  have m0 : f (27 + 4 * 0) = f 27 := rfl
  have m1 : f (27 + 4 * 1) = f 31 := rfl
  have m2 : f (27 + 4 * 2) = f 35 := rfl
  have k0 := I.le (d := 0) (by omega) (by omega)
  have k1 := I.le (d := 1) (by omega) (by omega)
  have k2 := I.le (d := 2) (by omega) (by omega)
  have dd : d = 0 ∨ d = 1 := by omega
  rcases dd with rfl | rfl
  · rw [show (27 : Int) + 4 * (0 + 1) = 31 from rfl]
    omega
  · rw [show (27 : Int) + 4 * (1 + 1) = 35 from rfl]
    omega
theorem lkg_m1 {f : Int → Int} {d e t : Int} (hd : 0 ≤ d ∧ d < 3) (hn : 1 ≤ f (27 + 4 * d)) (I : Inv f) (h : mem (lkg f d) e t) : mem f e t ∨ (e = d + 1 ∧ t = f (38 + 16 * d) ∧ HO f d) := by
  obtain ⟨p, ⟨e0, e1, p0, p1⟩, ht⟩ := h
  obtain ⟨a, b, -⟩ := lkg_q hd hn I
  have le := I.le e0 e1
  have b1 := bt_01 (e = d)
  by_cases z : HO f d
  · rw [(lkg_len hd hn I ⟨e0, e1⟩).2 z] at p1
    have d2 := z.1
    have l1 := I.le (d := d + 1) (by omega) (by omega)
    have nx := I.nx (d := d) (by omega) hn
    by_cases y : e = d + 1 ∧ p = f (27 + 4 * (d + 1))
    · refine Or.inr ⟨y.1, ?_, z⟩
      rw [← ht, b z _ (by omega) (by omega)]
      unfold jn
      rw [us_n (by omega), rl_l hd (e := d + 1) (by omega), bt_f (show ¬ d + 1 = d by omega), y.1, y.2]
      rw [show 38 + 16 * (d + 1) + (f (27 + 4 * (d + 1)) - 0) = 38 + 16 * (d + 1) + f (27 + 4 * (d + 1)) by omega]
      exact us_s
    · have hp : p < f (27 + 4 * e) - bt_ (e = d) 1 := by
        by_cases w : e = d + 1
        · rw [bt_t w] at p1
          subst w
          rw [bt_f (by omega)] at p1 ⊢
          omega
        · rw [bt_f w] at p1
          omega
      refine Or.inl ⟨p + bt_ (e = d) 1, ⟨e0, e1, by omega, by omega⟩, ?_⟩
      rw [← rl_q I hd ⟨e0, e1⟩ p0 hp, ← ht, b z _ (by omega) (by omega)]
      unfold jn
      rw [us_n (by omega), us_n]
      rw [rl_l hd (e := d + 1) (by omega), bt_f (show ¬ d + 1 = d by omega)]
      omega
  · rw [(lkg_len hd hn I ⟨e0, e1⟩).1 z] at p1
    refine Or.inl ⟨p + bt_ (e = d) 1, ⟨e0, e1, by omega, by omega⟩, ?_⟩
    rw [← rl_q I hd ⟨e0, e1⟩ p0 p1, ← ht, a z _ (by omega) (by omega) (by omega)]
theorem lkg_m2 {f : Int → Int} {d e t : Int} (hd : 0 ≤ d ∧ d < 3) (hn : 1 ≤ f (27 + 4 * d)) (I : Inv f) (h : mem f e t) : mem (lkg f d) e t ∨ (e = d ∧ t = f (38 + 16 * d)) := by
  obtain ⟨p, ⟨e0, e1, p0, p1⟩, ht⟩ := h
  obtain ⟨a, b, -⟩ := lkg_q hd hn I
  have le := I.le e0 e1
  have b1 := bt_01 (e = d)
  by_cases y : e = d ∧ p = 0
  · refine Or.inr ⟨y.1, ?_⟩
    rw [← ht, y.1, y.2, Int.add_zero]
  · have hp : 0 ≤ p - bt_ (e = d) 1 ∧ p - bt_ (e = d) 1 < f (27 + 4 * e) - bt_ (e = d) 1 := by
      by_cases w : e = d
      · rw [bt_t w]
        omega
      · rw [bt_f w]
        omega
    have rq := rl_q I hd ⟨e0, e1⟩ hp.1 hp.2
    rw [show p - bt_ (e = d) 1 + bt_ (e = d) 1 = p by omega, ht] at rq
    refine Or.inl ⟨p - bt_ (e = d) 1, ⟨e0, e1, hp.1, ?_⟩, ?_⟩
    · by_cases z : HO f d
      · have b2 := bt_01 (e = d + 1)
        rw [(lkg_len hd hn I ⟨e0, e1⟩).2 z]
        omega
      · rw [(lkg_len hd hn I ⟨e0, e1⟩).1 z]
        omega
    · rw [← rq]
      by_cases z : HO f d
      · have d2 := z.1
        have l1 := I.le (d := d + 1) (by omega) (by omega)
        have nx := I.nx (d := d) (by omega) hn
        rw [b z _ (by omega) (by omega)]
        unfold jn
        rw [us_n (by omega), us_n]
        rw [rl_l hd (e := d + 1) (by omega), bt_f (show ¬ d + 1 = d by omega)]
        by_cases w : e = d + 1
        · subst w
          rw [bt_f (show ¬ d + 1 = d by omega)] at hp ⊢
          omega
        · omega
      · exact a z _ (by omega) (by omega) (by omega)
theorem lkg_m3 {f : Int → Int} {d : Int} (hd : 0 ≤ d ∧ d < 3) (hn : 1 ≤ f (27 + 4 * d)) (I : Inv f) (z : HO f d) : mem (lkg f d) (d + 1) (f (38 + 16 * d)) := by
  obtain ⟨-, b, -⟩ := lkg_q hd hn I
  have d2 := z.1
  have l1 := I.le (d := d + 1) (by omega) (by omega)
  refine ⟨f (27 + 4 * (d + 1)), ⟨by omega, by omega, l1.1, ?_⟩, ?_⟩
  · rw [(lkg_len hd hn I (e := d + 1) (by omega)).2 z, bt_t rfl, bt_f (by omega)]
    omega
  · have nx := I.nx (d := d) (by omega) hn
    rw [b z _ (by omega) (by omega)]
    unfold jn
    rw [us_n (by omega), rl_l hd (e := d + 1) (by omega), bt_f (show ¬ d + 1 = d by omega), show 38 + 16 * (d + 1) + (f (27 + 4 * (d + 1)) - 0) = 38 + 16 * (d + 1) + f (27 + 4 * (d + 1)) by omega]
    exact us_s
