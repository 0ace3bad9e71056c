def KI (F f : Int → Int) : Prop := Inv f ∧ ∀ j, Kp j → f j = F j
theorem KI.dm {F f : Int → Int} (k : KI F f) (hB : Bd F) {t : Int} (ht : 0 ≤ t ∧ t < 64) : dbt f t = dbt F t ∧ msk f t = msk F t := by
  obtain ⟨c0, -⟩ := hB.2.2.2 t ht.1 ht.2
  have e := k.2
  have h4 := e 4 (by unfold Kp; omega)
  have h1 := e (87 + 9 * t) (by unfold Kp; omega)
  have h2 := e (88 + 9 * t) (by unfold Kp; omega)
  exact ⟨dbt_cg h4 (e _ (by unfold Kp; omega)) h1 h2 (fun k a b => e _ (by unfold Kp; omega)) (e _ (by unfold Kp; omega)), msk_cg h4 h1 h2⟩
theorem mem_b {f : Int → Int} (I : Inv f) {e t : Int} (h : mem f e t) : (0 ≤ e ∧ e < 3) ∧ (0 ≤ t ∧ t < 64) ∧ 1 ≤ f (27 + 4 * e) := by
  obtain ⟨p, q, ht⟩ := h
  have i7 := I.i7
  have d := I.2.2.2.2.1 e p q
  obtain ⟨e0, e1, p0, p1⟩ := q
  rw [ht] at d
  exact ⟨⟨e0, e1⟩, by omega, by omega⟩
theorem mem_h {f : Int → Int} {d : Int} (hd : 0 ≤ d ∧ d < 3) (hn : 1 ≤ f (27 + 4 * d)) : mem f d (f (38 + 16 * d)) := ⟨0, ⟨hd.1, hd.2, by omega, by omega⟩, by rw [Int.add_zero]⟩
theorem mem_cg {f g : Int → Int} (I : Inv f) (h : ∀ j, j = 27 ∨ j = 31 ∨ j = 35 ∨ 38 ≤ j ∧ j < 86 → g j = f j) {e t : Int} (m : mem f e t) : mem g e t := by
  obtain ⟨p, ⟨e0, e1, p0, p1⟩, ht⟩ := m
  have le := I.le e0 e1
  exact ⟨p, ⟨e0, e1, p0, by rw [h _ (by omega)]; exact p1⟩, by rw [h _ (by omega)]; exact ht⟩
theorem KI.g {F f : Int → Int} (k : KI F f) {d o : Int} (hd : 0 ≤ d ∧ d < 3) (hn : ¬ f (27 + 4 * d) ≤ 0) (hS : ¬ lkS f d o) : KI F (lkg f d) :=
  ⟨lkg_Inv (o := o) hd (by omega) k.1 hS, fun j hj => (lkg_k hd (by omega) k.1 (Or.inl hj)).trans (k.2 j hj)⟩
theorem KI.n {F f : Int → Int} (k : KI F f) {d o : Int} (hd : 0 ≤ d ∧ d < 3) (n : Nat) : KI F (hnd d o n f) := by
  obtain ⟨a, b⟩ := hnd_Inv (o := o) hd n f k.1
  exact ⟨a, fun j hj => (b j (Or.inl hj)).trans (k.2 j hj)⟩
theorem KI.D {F f : Int → Int} (k : KI F f) {d : Int} (hd : 0 ≤ d ∧ d < 3) : KI F (hnD f d) := k.n hd _
theorem KI.t {F f : Int → Int} (k : KI F f) : KI F (tn1 f) := by
  obtain ⟨a, b, -⟩ := tn1_Inv k.1
  exact ⟨a, fun j hj => (b j hj).trans (k.2 j hj)⟩
theorem tn1_hA {f : Int → Int} (I : Inv f) {j : Int} (h : j = 9 ∨ (26 ≤ j ∧ j < 86)) : tn1 f j = hA 3 f j := by
  obtain ⟨a, b⟩ := hA_Inv 3 f (by omega) I
  obtain ⟨c, e⟩ := dB_Inv 3 0 (hA 3 f) (by omega) (by omega) a
  rw [tn1_eq, us_n (by omega), e j (by omega)]
theorem hA3 (f : Int → Int) : hA 3 f = hnD (hnD (hnD f 2) 1) 0 := rfl
/-! none is opened -/
def Sq (F f : Int → Int) (D : Int) : Prop := ∀ e t, D ≤ e → mem f e t → (e = 2 → msk F t = 0) ∧ (e ≠ 2 → dbt F t ≤ 2 * F 0)
theorem sf_lkg {F f : Int → Int} {D d : Int} (k : KI F f) (hB : Bd F) (hd : 0 ≤ d ∧ d < 3) (hn : 1 ≤ f (27 + 4 * d)) (hD : d ≠ D - 1) (h3 : D ≤ 3) (s : Sq F f D) : Sq F (lkg f d) D ∧ lkg f d 9 = f 9 := by
  have mh := mem_h hd hn
  have b := (mem_b k.1 mh).2.1
  obtain ⟨e1, e2⟩ := k.dm hB b
  have e0 := k.2 0 (by unfold Kp; omega)
  refine ⟨fun e t he hm => ?_, ?_⟩
  · rcases lkg_m1 hd hn k.1 hm with h | ⟨rfl, rfl, z1, z2, z3⟩
    · exact s e t he h
    · have sd := (s d _ (by omega) mh).2 z1
      rw [e1, e0] at z3
      have dd : d = 0 ∨ d = 1 := by omega
      rcases dd with rfl | rfl
      · exact ⟨fun y => by omega, fun _ => sd⟩
      · omega
  · rw [(lkg_q hd hn k.1).2.2, bt_f]
    · omega
    · rintro ⟨rfl, y⟩
      rw [e2] at y
      exact y ((s 2 _ (by omega) mh).1 rfl)
theorem sf_hnd {F : Int → Int} {D d o : Int} (hB : Bd F) (hd : 0 ≤ d ∧ d < 3) (hD : d ≠ D - 1) (h3 : D ≤ 3) : ∀ (n : Nat) (f : Int → Int), KI F f → Sq F f D → Sq F (hnd d o n f) D ∧ hnd d o n f 9 = f 9
  | 0, f, k, s => ⟨s, rfl⟩
  | n + 1, f, k, s => by
    by_cases c : f (27 + 4 * d) ≤ 0
    · rw [hnd_z c]
      exact ⟨s, rfl⟩
    · have c2 : ¬ lkS f d o := by
        rintro ⟨y, rfl, -⟩
        have mh := mem_h (f := f) (d := 2) (by omega) (by omega)
        rw [(k.dm hB (mem_b k.1 mh).2.1).2] at y
        exact y ((s 2 _ (by omega) mh).1 rfl)
      rw [hnd_g c c2]
      obtain ⟨a, b⟩ := sf_lkg k hB hd (by omega) hD h3 s
      obtain ⟨a2, b2⟩ := sf_hnd hB hd hD h3 n (lkg f d) (k.g hd c c2) a
      exact ⟨a2, b2.trans b⟩
theorem sf_hnD {F f : Int → Int} {D d : Int} (k : KI F f) (hB : Bd F) (hd : 0 ≤ d ∧ d < 3) (hD : D = 0 ∨ F (22 + 4 * D) = 0) (h3 : D ≤ 3) (s : Sq F f D) : Sq F (hnD f d) D ∧ hnD f d 9 = f 9 := by
  by_cases e : d = D - 1
  · have e1 := k.2 (26 + 4 * d) (by unfold Kp; omega)
    rcases hD with y | y
    · omega
    · rw [show 26 + 4 * d = 22 + 4 * D by omega, y] at e1
      unfold hnD
      rw [show 26 + 4 * d = 22 + 4 * D by omega, e1]
      exact ⟨s, rfl⟩
  · exact sf_hnd hB hd e h3 _ f k s
theorem sf_tn1 {F f : Int → Int} {D : Int} (k : KI F f) (hB : Bd F) (hD : D = 0 ∨ F (22 + 4 * D) = 0) (h3 : D ≤ 3) (s : Sq F f D) : Sq F (tn1 f) D ∧ tn1 f 9 = f 9 := by
  have d0 : (0 : Int) ≤ 0 ∧ (0 : Int) < 3 := by omega
  have d1 : (0 : Int) ≤ 1 ∧ (1 : Int) < 3 := by omega
  have d2 : (0 : Int) ≤ 2 ∧ (2 : Int) < 3 := by omega
  obtain ⟨s2, e2⟩ := sf_hnD k hB d2 hD h3 s
  obtain ⟨s1, e1⟩ := sf_hnD (k.D d2) hB d1 hD h3 s2
  obtain ⟨s0, e0⟩ := sf_hnD ((k.D d2).D d1) hB d0 hD h3 s1
  refine ⟨fun e t he hm => s0 e t he ?_, ?_⟩
  · exact mem_cg k.t.1 (fun j hj => by rw [tn1_hA k.1 (by omega), hA3]) hm
  · rw [tn1_hA k.1 (Or.inl rfl), hA3, e0, e1, e2]
theorem sf_tnN {F : Int → Int} {D : Int} (hB : Bd F) (hD : D = 0 ∨ F (22 + 4 * D) = 0) (h3 : D ≤ 3) : ∀ (n : Nat) (f : Int → Int), KI F f → Sq F f D → tnN n f 9 = f 9
  | 0, f, _, _ => rfl
  | n + 1, f, k, s => by
    obtain ⟨a, b⟩ := sf_tn1 k hB hD h3 s
    show tnN n (tn1 f) 9 = f 9
    rw [sf_tnN hB hD h3 n _ k.t a, b]
/-! one is opened -/
theorem mo_lkg {f : Int → Int} {d : Int} (hd : 0 ≤ d ∧ d < 3) (hn : 1 ≤ f (27 + 4 * d)) (I : Inv f) : f 9 ≤ lkg f d 9 := by
  have b := bt_01 (d = 2 ∧ msk f (f (38 + 16 * d)) ≠ 0)
  rw [(lkg_q hd hn I).2.2]
  omega
/-- the trunk t still goes up from the desk D, or one more was opened -/
def Wl (F : Int → Int) (t D : Int) (f : Int → Int) : Prop := F 9 < f 9 ∨ (F 9 ≤ f 9 ∧ ∃ e, D ≤ e ∧ mem f e t)
def Lv (F : Int → Int) (t D : Int) : Prop := Bd F ∧ 0 ≤ D ∧ (∀ e, D ≤ e → e < 3 → 1 ≤ F (26 + 4 * e)) ∧ msk F t ≠ 0 ∧ (D = 2 ∨ 2 * F 0 < dbt F t)
theorem Lv.b {F : Int → Int} {t D : Int} (L : Lv F t D) : Bd F := L.1
theorem Lv.d {F : Int → Int} {t D : Int} (L : Lv F t D) : 0 ≤ D := L.2.1
theorem Lv.h {F : Int → Int} {t D : Int} (L : Lv F t D) : ∀ e, D ≤ e → e < 3 → 1 ≤ F (26 + 4 * e) := L.2.2.1
theorem Lv.m {F : Int → Int} {t D : Int} (L : Lv F t D) : msk F t ≠ 0 := L.2.2.2.1
theorem Lv.w {F : Int → Int} {t D : Int} (L : Lv F t D) : D = 2 ∨ 2 * F 0 < dbt F t := L.2.2.2.2
theorem lv_lkg {F f : Int → Int} {t D d : Int} (L : Lv F t D) (k : KI F f) (hd : 0 ≤ d ∧ d < 3) (hn : 1 ≤ f (27 + 4 * d)) (w : Wl F t D f) : Wl F t D (lkg f d) := by
  have mo := mo_lkg hd hn k.1
  rcases w with w | ⟨w0, e, he, m⟩
  · exact Or.inl (by omega)
  · have b := (mem_b k.1 m).2.1
    obtain ⟨e1, e2⟩ := k.dm L.b b
    have e0 := k.2 0 (by unfold Kp; omega)
    have f0 := L.b.1.1
    rcases lkg_m2 hd hn k.1 m with h | ⟨rfl, h⟩
    · exact Or.inr ⟨by omega, e, he, h⟩
    · by_cases z : e = 2
      · refine Or.inl ?_
        rw [(lkg_q hd hn k.1).2.2, ← h, bt_t ⟨z, by rw [e2]; exact L.m⟩]
        omega
      · have hw : 2 * F 0 < dbt F t := by
          rcases L.w with y | y
          · omega
          · exact y
        have ho : HO f e := by
          refine ⟨z, by rw [← h, e2]; exact L.m, ?_⟩
          rw [← h, e1, e0]
          have ee : e = 0 ∨ e = 1 := by omega
          rcases ee with rfl | rfl <;> omega
        refine Or.inr ⟨by omega, e + 1, by omega, ?_⟩
        rw [h]
        exact lkg_m3 hd hn k.1 ho
theorem lkd_mu {f : Int → Int} {d : Int} (hd : 0 ≤ d ∧ d < 3) : mu (lkd f d) = mu f := by
  unfold mu
  rw [lkd_o (by omega), lkd_o (by omega), lkd_o (by omega)]
theorem lv_hnd {F : Int → Int} {t D d o : Int} (L : Lv F t D) (hd : 0 ≤ d ∧ d < 3) : ∀ (n : Nat) (f : Int → Int), KI F f → Wl F t D f → Wl F t D (hnd d o n f) ∧ mu (hnd d o n f) ≤ mu f ∧ ∀ e, e ≠ d → mem f e t → mem (hnd d o n f) e t
  | 0, f, k, w => ⟨w, Int.le_refl _, fun _ _ h => h⟩
  | n + 1, f, k, w => by
    by_cases c : f (27 + 4 * d) ≤ 0
    · rw [hnd_z c]
      exact ⟨w, Int.le_refl _, fun _ _ h => h⟩
    · by_cases c2 : lkS f d o
      · rw [hnd_s c c2]
        have mm : ∀ e, mem f e t → mem (lkd f d) e t := fun e h => mem_cg k.1 (fun j hj => lkd_o (by omega)) h
        have e9 : lkd f d 9 = f 9 := lkd_o (by omega)
        refine ⟨?_, by rw [lkd_mu hd]; omega, fun e _ h => mm e h⟩
        unfold Wl
        rw [e9]
        rcases w with w | ⟨w0, e, he, m⟩
        · exact Or.inl w
        · exact Or.inr ⟨w0, e, he, mm e m⟩
      · rw [hnd_g c c2]
        have hn : 1 ≤ f (27 + 4 * d) := by omega
        obtain ⟨a, b, x⟩ := lv_hnd (o := o) L hd n (lkg f d) (k.g hd c c2) (lv_lkg L k hd hn w)
        have m1 := lkg_mu hd hn k.1
        refine ⟨a, by omega, fun e he m => x e he ?_⟩
        rcases lkg_m2 hd hn k.1 m with y | ⟨y, -⟩
        · exact y
        · exact absurd y he
theorem mo_hnd {d o : Int} (hd : 0 ≤ d ∧ d < 3) : ∀ (n : Nat) (f : Int → Int), Inv f → f 9 ≤ hnd d o n f 9
  | 0, f, _ => Int.le_refl _
  | n + 1, f, I => by
    by_cases c : f (27 + 4 * d) ≤ 0
    · rw [hnd_z c]
      omega
    · by_cases c2 : lkS f d o
      · rw [hnd_s c c2, lkd_o (by omega)]
        omega
      · rw [hnd_g c c2]
        have a := mo_lkg hd (by omega) I
        have b := mo_hnd (o := o) hd n (lkg f d) (lkg_Inv (o := o) hd (by omega) I c2)
        omega
theorem mo_tn1 {f : Int → Int} (I : Inv f) : f 9 ≤ tn1 f 9 := by
  have d0 : (0 : Int) ≤ 0 ∧ (0 : Int) < 3 := by omega
  have d1 : (0 : Int) ≤ 1 ∧ (1 : Int) < 3 := by omega
  have d2 : (0 : Int) ≤ 2 ∧ (2 : Int) < 3 := by omega
  have a : f 9 ≤ hnD f 2 9 := mo_hnd d2 _ f I
  have I2 : Inv (hnD f 2) := (hnd_Inv d2 _ f I).1
  have b : hnD f 2 9 ≤ hnD (hnD f 2) 1 9 := mo_hnd d1 _ _ I2
  have I1 : Inv (hnD (hnD f 2) 1) := (hnd_Inv d1 _ _ I2).1
  have c : hnD (hnD f 2) 1 9 ≤ hnD (hnD (hnD f 2) 1) 0 9 := mo_hnd d0 _ _ I1
  rw [tn1_hA I (Or.inl rfl), hA3]
  omega
theorem mo_tnN : ∀ (n : Nat) (f : Int → Int), Inv f → f 9 ≤ tnN n f 9
  | 0, f, _ => Int.le_refl _
  | n + 1, f, I => by
    have a := mo_tn1 I
    have b := mo_tnN n (tn1 f) (tn1_Inv I).1
    show f 9 ≤ tnN n (tn1 f) 9
    omega
theorem lv_drop {F f : Int → Int} {t D e : Int} (L : Lv F t D) (k : KI F f) (w : Wl F t D f) (he : D ≤ e) (m : mem f e t) : mu (hnD f e) < mu f := by
  obtain ⟨hd, b, hn⟩ := mem_b k.1 m
  have h1 := L.h e he hd.2
  rw [← k.2 (26 + 4 * e) (by unfold Kp; omega)] at h1
  have f5 := k.1.1.1.2.2.2.2.2
  obtain ⟨n, hN⟩ : ∃ n : Nat, (f (26 + 4 * e)).toNat = n + 1 := ⟨(f (26 + 4 * e)).toNat - 1, by omega⟩
  have c2 : ¬ lkS f e (f 9) := fun z => by
    have := z.2.2
    omega
  unfold hnD
  rw [hN, hnd_g (by omega) c2]
  obtain ⟨-, y, -⟩ := lv_hnd (o := f 9) L hd n (lkg f e) (k.g hd (by omega) c2) (lv_lkg L k hd hn w)
  have := lkg_mu hd hn k.1
  omega
theorem lv_hnD {F f : Int → Int} {t D d : Int} (L : Lv F t D) (hd : 0 ≤ d ∧ d < 3) (k : KI F f) (w : Wl F t D f) : Wl F t D (hnD f d) ∧ mu (hnD f d) ≤ mu f ∧ ∀ e, e ≠ d → mem f e t → mem (hnD f d) e t := lv_hnd (o := f 9) L hd _ f k w
theorem lv_tn1 {F f : Int → Int} {t D : Int} (L : Lv F t D) (k : KI F f) (w0 : F 9 ≤ f 9) {e : Int} (he : D ≤ e) (m : mem f e t) : Wl F t D (tn1 f) ∧ mu (tn1 f) < mu f := by
  have d0 : (0 : Int) ≤ 0 ∧ (0 : Int) < 3 := by omega
  have d1 : (0 : Int) ≤ 1 ∧ (1 : Int) < 3 := by omega
  have d2 : (0 : Int) ≤ 2 ∧ (2 : Int) < 3 := by omega
  have w : Wl F t D f := Or.inr ⟨w0, e, he, m⟩
  have b := (mem_b k.1 m).1
  obtain ⟨w2, u2, k2⟩ := lv_hnD L d2 k w
  have K2 := k.D d2
  obtain ⟨w1, u1, k1⟩ := lv_hnD L d1 K2 w2
  have K1 := K2.D d1
  obtain ⟨w3, u0, k0⟩ := lv_hnD L d0 K1 w1
  have em : mu (tn1 f) = mu (hnD (hnD (hnD f 2) 1) 0) := by
    unfold mu
    rw [tn1_hA k.1 (by omega), tn1_hA k.1 (by omega), tn1_hA k.1 (by omega), hA3]
  refine ⟨?_, ?_⟩
  · unfold Wl
    rw [tn1_hA k.1 (Or.inl rfl), hA3]
    rcases w3 with y | ⟨y0, e', he', m'⟩
    · exact Or.inl y
    · exact Or.inr ⟨y0, e', he', mem_cg (((K1.D d0)).1) (fun j hj => by rw [tn1_hA k.1 (by omega), hA3]) m'⟩
  · rw [em]
    have ee : e = 2 ∨ e = 1 ∨ e = 0 := by omega
    rcases ee with rfl | rfl | rfl
    · have := lv_drop L k w he m
      omega
    · have := lv_drop L K2 w2 he (k2 1 (by omega) m)
      omega
    · have := lv_drop L K1 w1 he (k1 0 (by omega) (k2 0 (by omega) m))
      omega
theorem lv_tnN {F : Int → Int} {t D : Int} (L : Lv F t D) : ∀ (n : Nat) (f : Int → Int), KI F f → Wl F t D f → F 9 < tnN n f 9 ∨ mu (tnN n f) + n ≤ mu f
  | 0, f, _, _ => Or.inr (by show mu f + 0 ≤ mu f; omega)
  | n + 1, f, k, w => by
    rcases w with w | ⟨w0, e, he, m⟩
    · have := mo_tnN (n + 1) f k.1
      exact Or.inl (by omega)
    · obtain ⟨a, b⟩ := lv_tn1 L k w0 he m
      rcases lv_tnN L n (tn1 f) k.t a with c | c
      · exact Or.inl c
      · refine Or.inr ?_
        show mu (tnN n (tn1 f)) + ((n + 1 : Nat) : Int) ≤ mu f
        omega
theorem lv_ok {F : Int → Int} {t D e : Int} (L : Lv F t D) (I : Inv F) (he : D ≤ e) (m : mem F e t) {n : Nat} (hn : 49 ≤ n) : F 9 < tnN n F 9 := by
  have i16 := I.2.2.2.1
  have k0 := I.le (d := 0) (by omega) (by omega)
  have k1 := I.le (d := 1) (by omega) (by omega)
  have k2 := I.le (d := 2) (by omega) (by omega)
  have m0 : F (27 + 4 * 0) = F 27 := rfl
  have m1 : F (27 + 4 * 1) = F 31 := rfl
  have m2 : F (27 + 4 * 2) = F 35 := rfl
  have I2 := (tnN_Inv n F I).1
  have q0 := I2.le (d := 0) (by omega) (by omega)
  have q1 := I2.le (d := 1) (by omega) (by omega)
  have q2 := I2.le (d := 2) (by omega) (by omega)
  have n0 : tnN n F (27 + 4 * 0) = tnN n F 27 := rfl
  have n1 : tnN n F (27 + 4 * 1) = tnN n F 31 := rfl
  have n2 : tnN n F (27 + 4 * 2) = tnN n F 35 := rfl
  rcases lv_tnN L n F ⟨I, fun _ _ => rfl⟩ (Or.inr ⟨Int.le_refl _, e, he, m⟩) with c | c
  · exact c
  · unfold mu at c
    omega
